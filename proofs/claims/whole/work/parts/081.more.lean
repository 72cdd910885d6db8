-- ===== Math, constants, switches, arraycopy, statics =====
def CalM (μ : MU) (pc pc' : Nat) (y : MethodName) (bs : ByteArray) (n : Nat) (r : Option FieldType) : Prop := ∃ idx : Nat, decode (mB μ) pc = .ok (.invokestatic idx, 3) ∧ pc' = pc + 3 ∧ Cond.methodLink (mO μ) idx y ∈ tb ∧ Cond.static y ∈ tb ∧ Cond.initialized "java/lang/Math" ∈ tb ∧ Cond.code y bs n r ∈ tb
def LdcI (μ : MU) (pc pc' : Nat) (z : Int) : Prop := ∃ (idx : Nat) (v : Int32), ((decode (mB μ) pc = .ok (.ldc idx, 2) ∧ pc' = pc + 2) ∨ (decode (mB μ) pc = .ok (.ldc_w idx, 3) ∧ pc' = pc + 3)) ∧ Cond.constant (mO μ) idx v ∈ tb ∧ v = iI z
def LdcL (μ : MU) (pc pc' : Nat) (z : Int) : Prop := ∃ (idx : Nat) (v : Int64), decode (mB μ) pc = .ok (.ldc2_w idx, 3) ∧ pc' = pc + 3 ∧ Cond.constantLong (mO μ) idx v ∈ tb ∧ v = iL z
/-- a static array of the class: place j of stN -/
def GstA (μ : MU) (pc pc' : Nat) (j : Nat) : Prop := ∃ (idx : Nat), decode (mB μ) pc = .ok (.getstatic idx, 3) ∧ pc' = pc + 3 ∧ j < 5 ∧ (Cond.fieldLink (mO μ) idx "RockingGuard" (stN j) "[I" ∈ tb ∨ ∃ host, (mO μ, idx, "RockingGuard", stN j, "[I", host) ∈ nestF)
def CalA (μ : MU) (pc pc' : Nat) : Prop := ∃ idx : Nat, decode (mB μ) pc = .ok (.invokestatic idx, 3) ∧ pc' = pc + 3 ∧ Cond.methodLink (mO μ) idx arraycopyName ∈ tb ∧ Cond.native arraycopyName ∈ tb ∧ Cond.static arraycopyName ∈ tb ∧ Cond.initialized "java/lang/System" ∈ tb
theorem max_I {x y : Int} (hx : -2147483648 ≤ x ∧ x ≤ 2147483647) (hy : -2147483648 ≤ y ∧ y ≤ 2147483647) : (if iI x < iI y then iI y else iI x) = iI (max x y) := by
  by_cases q : x < y
  · rw [if_pos ((iI_lt hx hy).mpr q), Int.max_eq_right (by omega)]
  · rw [if_neg (mt (iI_lt hx hy).mp q), Int.max_eq_left (by omega)]
theorem min_I {x y : Int} (hx : -2147483648 ≤ x ∧ x ≤ 2147483647) (hy : -2147483648 ≤ y ∧ y ≤ 2147483647) : (if iI y < iI x then iI y else iI x) = iI (min x y) := by
  by_cases q : y < x
  · rw [if_pos ((iI_lt hy hx).mpr q), Int.min_eq_right (by omega)]
  · rw [if_neg (mt (iI_lt hy hx).mp q), Int.min_eq_left (by omega)]
theorem max_L {x y : Int} (hx : -9223372036854775808 ≤ x ∧ x ≤ 9223372036854775807) (hy : -9223372036854775808 ≤ y ∧ y ≤ 9223372036854775807) : (if iL y < iL x then iL x else iL y) = iL (max x y) := by
  by_cases q : y < x
  · rw [if_pos ((iL_lt hy hx).mpr q), Int.max_eq_left (by omega)]
  · rw [if_neg (mt (iL_lt hy hx).mp q), Int.max_eq_right (by omega)]
theorem min_L {x y : Int} (hx : -9223372036854775808 ≤ x ∧ x ≤ 9223372036854775807) (hy : -9223372036854775808 ≤ y ∧ y ≤ 9223372036854775807) : (if iL y < iL x then iL y else iL x) = iL (min x y) := by
  by_cases q : y < x
  · rw [if_pos ((iL_lt hy hx).mpr q), Int.min_eq_right (by omega)]
  · rw [if_neg (mt (iL_lt hy hx).mp q), Int.min_eq_left (by omega)]
theorem abs_L {x : Int} (hx : -9223372036854775808 ≤ x ∧ x ≤ 9223372036854775807) : (if 0 < iL x then iL x else -iL x) = iL (if 0 < x then x else -x) := by
  have e : (0 : Int64) < iL x ↔ 0 < x := iL_lt (x := 0) (by omega) hx
  by_cases q : 0 < x
  · rw [if_pos (e.mpr q), if_pos q]
  · rw [if_neg (mt e.mp q), if_neg q, iL_neg]
-- stores, where the slot ahead holds no long
def okp (ls : List (Option Value)) (i : Nat) : Bool := match i with
  | 0 => true
  | j + 1 => match ls[j]? with
    | some (some w) => w.category != 2
    | _ => true
theorem sto1_set : ∀ (ls : List (Option Value)) (i : Nat) (v : Value), okp ls i = true → sto1 ls i v = ls.set i (some v) := by
  intro ls
  induction ls with
  | nil => intro i v _; simp [sto1]
  | cons x r ih =>
    intro i v h
    match i with
    | 0 => rfl
    | 1 =>
      have e : sto1 r 0 v = r.set 0 (some v) := ih 0 v rfl
      cases x with
      | none => simp only [sto1, List.set, e]
      | some w =>
        have hw : ¬ w.category = 2 := by
          simp only [okp, List.getElem?_cons_zero] at h
          intro q
          simp [q] at h
        simp only [sto1, if_neg hw, List.set, e]
    | j + 2 =>
      have e := ih (j + 1) v (by simpa [okp] using h)
      simp only [sto1, List.set, e]
section MORE
variable {G : gG} {l : Launch} {μ ν : MU} {d d' mc ms cb sb : Nat} {pc pc' : Nat} {ls : List (Option Value)} {st rest as : List Value} {h h' : ph} {Q Q1 : Option Value → ph → Prop} {ci o q : Nat} {jz x y i n z : Int}
theorem cat_tv (G : gG) (st : List Value) : ((st.map (tv G)).map fun v => v.category).sum = (st.map fun v => v.category).sum := by
  have e : (st.map (tv G)).map (fun v => v.category) = st.map (fun v => v.category) := by simp [tv_cat]
  rw [e]
theorem r_maxI (hd : CalM μ pc pc' Lib.Math.max.name Lib.Math.max.code 2 (some .int)) (hdp : 1 ≤ d) (hcat : (st.map fun v => v.category).sum ≤ 8) (hx : -2147483648 ≤ x ∧ x ≤ 2147483647) (hy : -2147483648 ≤ y ∧ y ≤ 2147483647) (k : Co G l μ d mc ms cb sb pc' ls (vI (max x y) :: st) h Q) : Co G l μ d mc ms cb sb pc ls (vI y :: vI x :: st) h Q := by
  obtain ⟨idx, hdc, rfl, h1, h2, h3, h4⟩ := hd
  intro p e s m args below meth c H locs cells slots lsR C hH hS hL hcc hs
  refine va_mmax C.1 C.2.1 (C.2.2.2.1.trans hL.1.symm) C.own (C.tb _ h1) (C.tb _ h2) (C.tb _ h3) (C.tb _ h4) (by show 1 ≤ d; exact hdp) (by rw [cat_tv]; show _ ≤ 100 * d; omega) (by show cells ≤ mc; omega) (by show slots ≤ ms; omega) hdc ?_
  rw [max_I hx hy]
  exact k p e s m args below meth c H locs cells slots lsR C hH hS hL hcc hs
theorem r_minI (hd : CalM μ pc pc' Lib.Math.min.name Lib.Math.min.code 2 (some .int)) (hdp : 1 ≤ d) (hcat : (st.map fun v => v.category).sum ≤ 8) (hx : -2147483648 ≤ x ∧ x ≤ 2147483647) (hy : -2147483648 ≤ y ∧ y ≤ 2147483647) (k : Co G l μ d mc ms cb sb pc' ls (vI (min x y) :: st) h Q) : Co G l μ d mc ms cb sb pc ls (vI y :: vI x :: st) h Q := by
  obtain ⟨idx, hdc, rfl, h1, h2, h3, h4⟩ := hd
  intro p e s m args below meth c H locs cells slots lsR C hH hS hL hcc hs
  refine va_mmin C.1 C.2.1 (C.2.2.2.1.trans hL.1.symm) C.own (C.tb _ h1) (C.tb _ h2) (C.tb _ h3) (C.tb _ h4) (by show 1 ≤ d; exact hdp) (by rw [cat_tv]; show _ ≤ 100 * d; omega) (by show cells ≤ mc; omega) (by show slots ≤ ms; omega) hdc ?_
  rw [min_I hx hy]
  exact k p e s m args below meth c H locs cells slots lsR C hH hS hL hcc hs
theorem r_maxL (hd : CalM μ pc pc' Lib.MathLoose.max_long.x Lib.MathLoose.max_long.code 4 (some .long)) (hdp : 1 ≤ d) (hcat : (st.map fun v => v.category).sum ≤ 8) (hx : -9223372036854775808 ≤ x ∧ x ≤ 9223372036854775807) (hy : -9223372036854775808 ≤ y ∧ y ≤ 9223372036854775807) (k : Co G l μ d mc ms cb sb pc' ls (vL (max x y) :: st) h Q) : Co G l μ d mc ms cb sb pc ls (vL y :: vL x :: st) h Q := by
  obtain ⟨idx, hdc, rfl, h1, h2, h3, h4⟩ := hd
  intro p e s m args below meth c H locs cells slots lsR C hH hS hL hcc hs
  refine va_mmax_long C.1 C.2.1 (C.2.2.2.1.trans hL.1.symm) C.own (C.tb _ h1) (C.tb _ h2) (C.tb _ h3) (C.tb _ h4) (by show 1 ≤ d; exact hdp) (by rw [cat_tv]; show _ ≤ 100 * d; omega) (by show cells ≤ mc; omega) (by show slots ≤ ms; omega) hdc ?_
  rw [max_L hx hy]
  exact k p e s m args below meth c H locs cells slots lsR C hH hS hL hcc hs
theorem r_minL (hd : CalM μ pc pc' Lib.MathLoose.min_long.x Lib.MathLoose.min_long.code 4 (some .long)) (hdp : 1 ≤ d) (hcat : (st.map fun v => v.category).sum ≤ 8) (hx : -9223372036854775808 ≤ x ∧ x ≤ 9223372036854775807) (hy : -9223372036854775808 ≤ y ∧ y ≤ 9223372036854775807) (k : Co G l μ d mc ms cb sb pc' ls (vL (min x y) :: st) h Q) : Co G l μ d mc ms cb sb pc ls (vL y :: vL x :: st) h Q := by
  obtain ⟨idx, hdc, rfl, h1, h2, h3, h4⟩ := hd
  intro p e s m args below meth c H locs cells slots lsR C hH hS hL hcc hs
  refine va_mmin_long C.1 C.2.1 (C.2.2.2.1.trans hL.1.symm) C.own (C.tb _ h1) (C.tb _ h2) (C.tb _ h3) (C.tb _ h4) (by show 1 ≤ d; exact hdp) (by rw [cat_tv]; show _ ≤ 100 * d; omega) (by show cells ≤ mc; omega) (by show slots ≤ ms; omega) hdc ?_
  rw [min_L hx hy]
  exact k p e s m args below meth c H locs cells slots lsR C hH hS hL hcc hs
theorem r_absL (hd : CalM μ pc pc' Lib.MathLoose.abs_long.x Lib.MathLoose.abs_long.code 2 (some .long)) (hdp : 1 ≤ d) (hcat : (st.map fun v => v.category).sum ≤ 8) (hx : -9223372036854775808 ≤ x ∧ x ≤ 9223372036854775807) (k : Co G l μ d mc ms cb sb pc' ls (vL (if 0 < x then x else -x) :: st) h Q) : Co G l μ d mc ms cb sb pc ls (vL x :: st) h Q := by
  obtain ⟨idx, hdc, rfl, h1, h2, h3, h4⟩ := hd
  intro p e s m args below meth c H locs cells slots lsR C hH hS hL hcc hs
  refine va_mabs_long C.1 C.2.1 (C.2.2.2.1.trans hL.1.symm) C.own (C.tb _ h1) (C.tb _ h2) (C.tb _ h3) (C.tb _ h4) (by show 1 ≤ d; exact hdp) (by rw [cat_tv]; show _ ≤ 100 * d; omega) (by show cells ≤ mc; omega) (by show slots ≤ ms; omega) hdc ?_
  rw [abs_L hx]
  exact k p e s m args below meth c H locs cells slots lsR C hH hS hL hcc hs
theorem r_ldcI (hd : LdcI μ pc pc' z) (k : Co G l μ d mc ms cb sb pc' ls (vI z :: st) h Q) : Co G l μ d mc ms cb sb pc ls st h Q := by
  obtain ⟨idx, v, hdc, hw, rfl⟩ := hd
  intro p e s m args below meth c H locs cells slots lsR C hH hS hL hcc hs
  rcases hdc with ⟨hdc, rfl⟩ | ⟨hdc, rfl⟩
  · exact lv_ldc C.1 C.2.1 C.own (C.tb _ hw) hdc (k p e s m args below meth c H locs cells slots lsR C hH hS hL hcc hs)
  · exact lv_ldcw C.1 C.2.1 C.own (C.tb _ hw) hdc (k p e s m args below meth c H locs cells slots lsR C hH hS hL hcc hs)
theorem r_ldcL (hd : LdcL μ pc pc' z) (k : Co G l μ d mc ms cb sb pc' ls (vL z :: st) h Q) : Co G l μ d mc ms cb sb pc ls st h Q := by
  obtain ⟨idx, v, hdc, rfl, hw, rfl⟩ := hd
  intro p e s m args below meth c H locs cells slots lsR C hH hS hL hcc hs
  exact lv_ldc2 C.1 C.2.1 C.own (C.tb _ hw) hdc (k p e s m args below meth c H locs cells slots lsR C hH hS hL hcc hs)
theorem r_tsw {dflt lo hi : Int} {offs : Array Int} {len tgtD : Nat} {tgs : List Nat} (hd : Ins μ pc (.tableswitch dflt lo hi offs) len pc') (hx : -2147483648 ≤ x ∧ x ≤ 2147483647) (ht : (pc : Int) + dflt = (tgtD : Int)) (hts : offs.toList.map (fun o => (pc : Int) + o) = tgs.map (fun (t : Nat) => (t : Int))) (hn : hi - lo + 1 = tgs.length)
    (kd : (x < lo ∨ hi < x) → Co G l μ d mc ms cb sb tgtD ls st h Q) (ki : ∀ (j t : Nat), tgs[j]? = some t → x = lo + j → Co G l μ d mc ms cb sb t ls st h Q) : Co G l μ d mc ms cb sb pc ls (vI x :: st) h Q := by
  obtain ⟨hdc, rfl⟩ := hd
  intro p e s m args below meth c H locs cells slots lsR C hH hS hL hcc hs
  by_cases hq : x < lo ∨ hi < x
  · exact lv_tableOut C.1 C.2.1 hdc (by rw [iI_int hx]; exact hq) ht (kd hq p e s m args below meth c H locs cells slots lsR C hH hS hL hcc hs)
  · have h1 : ¬ x < lo := fun z => hq (Or.inl z)
    have h2 : ¬ hi < x := fun z => hq (Or.inr z)
    have hlen : offs.size = tgs.length := by
      have := congrArg List.length hts
      simpa using this
    have hj : (x - lo).toNat < tgs.length := by omega
    obtain ⟨t, ht1⟩ : ∃ t, tgs[(x - lo).toNat]? = some t := ⟨_, List.getElem?_eq_getElem hj⟩
    have ho : (x - lo).toNat < offs.size := by omega
    have ho2 : offs[(x - lo).toNat]? = some offs[(x - lo).toNat] := Array.getElem?_eq_getElem ho
    have he := congrArg (fun l => l[(x - lo).toNat]?) hts
    simp only [List.getElem?_map, ht1, Array.getElem?_toList, ho2, Option.map_some, Option.some.injEq] at he
    exact lv_tableIn C.1 C.2.1 hdc (by rw [iI_int hx]; exact h1) (by rw [iI_int hx]; exact h2) (by rw [iI_int hx]; exact ho2) he (ki _ t ht1 (by omega) p e s m args below meth c H locs cells slots lsR C hH hS hL hcc hs)
theorem r_lsw {dflt off : Int} {ps : Array (Int × Int)} {len tgt : Nat} (hd : Ins μ pc (.lookupswitch dflt ps) len pc') (hx : -2147483648 ≤ x ∧ x ≤ 2147483647) (hp : (ps.toList.zip (ps.toList.drop 1)).all (fun (a, next) => a.1 < next.1) = true) (ho : Op.lookupswitch.offset ps.toList dflt x = off) (ht : (pc : Int) + off = (tgt : Int)) (k : Co G l μ d mc ms cb sb tgt ls st h Q) : Co G l μ d mc ms cb sb pc ls (vI x :: st) h Q := by
  obtain ⟨hdc, rfl⟩ := hd
  intro p e s m args below meth c H locs cells slots lsR C hH hS hL hcc hs
  exact lv_lookup C.1 C.2.1 hdc hp (by rw [iI_int hx]; exact ho) ht (k p e s m args below meth c H locs cells slots lsR C hH hS hL hcc hs)
theorem r_gstA {j : Nat} (hd : GstA μ pc pc' j) (k : Co G l μ d mc ms cb sb pc' ls (.ref (1000000 + j) :: st) h Q) : Co G l μ d mc ms cb sb pc ls st h Q := by
  obtain ⟨idx, hdc, rfl, hj, hlk⟩ := hd
  intro p e s m args below meth c H locs cells slots lsR C hH hS hL hcc hs
  have hZ := (C.wd.2.1 j hj).1
  have ha : tv G (.ref (1000000 + j)) = .ref (gS G j) := by
    show Value.ref (adr G (1000000 + j)) = _
    unfold adr
    rw [if_neg (by omega), Nat.add_sub_cancel_left]
  have kk := k p e s m args below meth c H locs cells slots lsR C hH hS hL hcc hs
  simp only [List.map_cons, ha] at kk
  rcases hlk with hlk | ⟨host, hlk⟩
  · exact va_gets C.1 C.2.1 hZ hS C.own (C.tb _ hlk) (fun _ h9 => h9) hdc kk
  · exact va_getsN C.1 C.2.1 hZ hS C.own (va_Nw.use rfl (C.wd.1.2.2.1 _ hlk)) (fun _ h9 => h9) hdc kk
theorem r_tald {j : Nat} (hd : Ins μ pc .iaload 1 pc') (hj : j < 5) (hi : 0 ≤ i ∧ i < (stV j).length) (hl : (stV j).length ≤ 8) (k : Co G l μ d mc ms cb sb pc' ls (vI ((stV j).getD i.toNat 0) :: st) h Q) : Co G l μ d mc ms cb sb pc ls (vI i :: .ref (1000000 + j) :: st) h Q := by
  obtain ⟨hdc, rfl⟩ := hd
  intro p e s m args below meth c H locs cells slots lsR C hH hS hL hcc hs
  have hT := (C.wd.2.1 j hj).2
  have ha : adr G (1000000 + j) = gS G j := by
    unfold adr
    rw [if_neg (by omega), Nat.add_sub_cancel_left]
  show W p l e (rmD d mc ms) s m args below meth c H locs cells slots _ (F0 m pc lsR (Value.int (iI i) :: Value.ref (adr G (1000000 + j)) :: st.map (tv G)))
  rw [ha]
  obtain ⟨e1, e2⟩ := iI_idx (z := i) (n := (stV j).length) hi (by omega)
  exact va_ti C.1 C.2.1 hT hS (by simpa using e1) (v := vI ((stV j).getD i.toNat 0)) (by rw [e2]) hdc (k p e s m args below meth c H locs cells slots lsR C hH hS hL hcc hs)
theorem r_talen {j : Nat} (hd : Ins μ pc .arraylength 1 pc') (hj : j < 5) (k : Co G l μ d mc ms cb sb pc' ls (vI (stV j).length :: st) h Q) : Co G l μ d mc ms cb sb pc ls (.ref (1000000 + j) :: st) h Q := by
  obtain ⟨hdc, rfl⟩ := hd
  intro p e s m args below meth c H locs cells slots lsR C hH hS hL hcc hs
  have hT := (C.wd.2.1 j hj).2
  have ha : adr G (1000000 + j) = gS G j := by
    unfold adr
    rw [if_neg (by omega), Nat.add_sub_cancel_left]
  show W p l e (rmD d mc ms) s m args below meth c H locs cells slots _ (F0 m pc lsR (Value.ref (adr G (1000000 + j)) :: st.map (tv G)))
  rw [ha]
  exact va_tlen C.1 C.2.1 hT hS (v := iI (stV j).length) rfl hdc (k p e s m args below meth c H locs cells slots lsR C hH hS hL hcc hs)
end MORE
section STO
variable {G : gG} {l : Launch} {μ : MU} {d mc ms cb sb : Nat} {pc pc' : Nat} {ls ls' : List (Option Value)} {st : List Value} {h : ph} {Q : Option Value → ph → Prop}
theorem s_istore_n {k9 : Fin 4} {x : Int} (hd : Ins μ pc (.istore_n k9) 1 pc') (hn : (k9 : Nat) < mL μ) (hok : okp ls (k9 : Nat) = true) (hls : ls.set (k9 : Nat) (some (vI x)) = ls') (k : Co G l μ d mc ms cb sb pc' ls' st h Q) : Co G l μ d mc ms cb sb pc ls (vI x :: st) h Q := co_istore_n hd hn (by rw [← hls, sto1_set _ _ _ hok]) k
theorem s_istore {i9 : Nat} {x : Int} (hd : Ins μ pc (.istore i9) 2 pc') (hn : i9 < mL μ) (hok : okp ls i9 = true) (hls : ls.set i9 (some (vI x)) = ls') (k : Co G l μ d mc ms cb sb pc' ls' st h Q) : Co G l μ d mc ms cb sb pc ls (vI x :: st) h Q := co_istore hd hn (by rw [← hls, sto1_set _ _ _ hok]) k
theorem s_lstore_n {k9 : Fin 4} {x : Int} (hd : Ins μ pc (.lstore_n k9) 1 pc') (hn : (k9 : Nat) + 1 < mL μ) (hok : okp ls (k9 : Nat) = true) (hls : (ls.set (k9 : Nat) (some (vL x))).set ((k9 : Nat) + 1) none = ls') (k : Co G l μ d mc ms cb sb pc' ls' st h Q) : Co G l μ d mc ms cb sb pc ls (vL x :: st) h Q := co_lstore_n hd hn (by rw [← hls]; unfold sto2; rw [sto1_set _ _ _ hok]) k
theorem s_lstore {i9 : Nat} {x : Int} (hd : Ins μ pc (.lstore i9) 2 pc') (hn : i9 + 1 < mL μ) (hok : okp ls i9 = true) (hls : (ls.set i9 (some (vL x))).set (i9 + 1) none = ls') (k : Co G l μ d mc ms cb sb pc' ls' st h Q) : Co G l μ d mc ms cb sb pc ls (vL x :: st) h Q := co_lstore hd hn (by rw [← hls]; unfold sto2; rw [sto1_set _ _ _ hok]) k
theorem s_astore_n {k9 : Fin 4} {x : Nat} (hd : Ins μ pc (.astore_n k9) 1 pc') (hn : (k9 : Nat) < mL μ) (hok : okp ls (k9 : Nat) = true) (hls : ls.set (k9 : Nat) (some (.ref x)) = ls') (k : Co G l μ d mc ms cb sb pc' ls' st h Q) : Co G l μ d mc ms cb sb pc ls (.ref x :: st) h Q := co_astore_n hd hn (by rw [← hls, sto1_set _ _ _ hok]) k
theorem s_astore {i9 : Nat} {x : Nat} (hd : Ins μ pc (.astore i9) 2 pc') (hn : i9 < mL μ) (hok : okp ls i9 = true) (hls : ls.set i9 (some (.ref x)) = ls') (k : Co G l μ d mc ms cb sb pc' ls' st h Q) : Co G l μ d mc ms cb sb pc ls (.ref x :: st) h Q := co_astore hd hn (by rw [← hls, sto1_set _ _ _ hok]) k
theorem s_iinc {i9 : Nat} {n x : Int} (hd : Ins μ pc (.iinc i9 n) 3 pc') (hl : ls[i9]? = some (some (vI x))) (hn : i9 < mL μ) (hok : okp ls i9 = true) (hls : ls.set i9 (some (vI (x + n))) = ls') (k : Co G l μ d mc ms cb sb pc' ls' st h Q) : Co G l μ d mc ms cb sb pc ls st h Q := co_iinc hd hl hn (by rw [← hls, sto1_set _ _ _ hok]) k
end STO
