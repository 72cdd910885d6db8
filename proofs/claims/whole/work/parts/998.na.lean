-- ===== what is made =====
theorem aInt : Cond.arrayClass .int ∈ tb := tb_1 (List.mem_of_getElem? (i := 56) (by decide +kernel)) rfl
theorem aBool : Cond.arrayClass .boolean ∈ tb := tb_6 (List.mem_of_getElem? (i := 45) (by decide +kernel)) rfl
theorem aLong : Cond.arrayClass .long ∈ tb := tb_6 (List.mem_of_getElem? (i := 44) (by decide +kernel)) rfl
section NEW
variable {G : gG} {l : Launch} {μ ν : MU} {d d' mc ms cb sb : Nat} {pc pc' : Nat} {ls : List (Option Value)} {st rest : List Value} {h : ph} {Q Q1 : Option Value → ph → Prop}
theorem cell_new (G : gG) (h : ph) (k : Nat × Int) {j : Nat} (hj : j ≠ hN h) : cellE G (sNew h k) j = cellE G h j := by
  have e1 : hK (sNew h k) j = hK h j := u2_n _ _ hj
  have e2 : hI (sNew h k) j = hI h j := u2_n _ _ hj
  have e3 : hJ (sNew h k) j = hJ h j := u2_n _ _ hj
  have e4 : hR (sNew h k) j = hR h j := u2_n _ _ hj
  unfold cellE fsE arE fv
  rw [e1, e2, e3, e4]
theorem HR.new {H H' : Heap} (hH : HR G h H) {k : Nat × Int} (hlt : hN h < 1000000) (hz : H'.size = H.size + 1) (ho : ∀ q : Nat, q < H.size → H'[q]? = H[q]?) (hc : va_at (gD G) cl0 (gB G + hN h, cellE G (sNew h k) (hN h)) H') : HR G (sNew h k) H' := by
  have hs := hH.1
  refine ⟨by rw [hz, hs]; rfl, (show hN h + 1 ≤ 1000000 by omega), fun j x hx => ?_⟩
  have hj : j < hN h + 1 := by
    have := len_of hx
    rw [ws_len] at this
    exact this
  rw [ws_get G (sNew h k) hj] at hx
  cases hx
  by_cases e : j = hN h
  · rw [e]; exact hc
  · have hj2 : j < hN h := by omega
    rw [cell_new G h k e]
    have h1 := hH.2.2.kept (H1 := H') (fun i y hy => by
      have hi := len_of hy
      rw [ws_len] at hi
      rw [ws_get G h hi] at hy
      cases hy
      exact ho _ (show gB G + i < H.size by omega))
    exact h1 j _ (ws_get G h hj2)
theorem va_S.new {A : Nat → Prop} {H0 H H' : Heap} {locs : List Loc} (hS : va_S A H0 H locs) (hz : H'.size = H.size + 1) (ho : ∀ q : Nat, q < H.size → H'[q]? = H[q]?) : va_S A H0 H' locs := ⟨Nat.le_trans hS.1 (by omega), fun x h1 h2 => (ho x (Nat.lt_of_lt_of_le h1 hS.1)).trans (hS.2.1 x h1 h2), hS.2.2⟩
theorem r_newa {n : Int} (hd : Ins μ pc (.newarray .int) 2 pc') (hn : 0 ≤ n ∧ n ≤ 100000) (hM : hN h < 1000000) (k : Co G l μ d mc ms cb sb pc' ls (.ref (hN h) :: st) (sNew h (100, n)) Q) : Co G l μ d mc ms (cb + 1) (sb + n.toNat) pc ls (vI n :: st) h Q := by
  obtain ⟨hdc, rfl⟩ := hd
  intro p e s m args below meth c H locs cells slots lsR C hH hS hL hcc hs
  obtain ⟨e1, e2⟩ := iI_idx (z := n) (n := n + 1) (by omega) (by omega)
  refine va_newaK (atype := .int) C.1 C.2.1 (C.tb _ aInt) rfl hdc rfl (fun q => e1 (Or.inl q)) e2 (show n.toNat * 4 ≤ 536870912 by omega) (show cells + 1 ≤ mc by omega) (show slots + n.toNat ≤ ms by omega) hH.1 (fun H' cA c1 c2 c3 c4 c5 => ?_)
  have hA : cA = gA G 0 := by
    have := (C.K.2 0 _ rfl).2
    have h2 : s.vm.findClass ("[" ++ FieldType.int.toString) = some (gA G 0) := this
    have h3 : s.vm.findClass ("[" ++ FieldType.int.toString) = some cA := c5
    rw [h2] at h3
    exact (Option.some.inj h3).symm
  have kk := k p e s m args below meth c H' locs (cells + 1) (slots + n.toNat) lsR C (hH.new hM (by rw [c2, hH.1]) (fun q hq => c3 q (by rw [← hH.1]; exact hq)) ?_) (hS.new (by rw [c2, hH.1]) (fun q hq => c3 q (by rw [← hH.1]; exact hq))) hL (by omega) (by omega)
  · have ha : tv G (.ref (hN h)) = .ref (gB G + hN h) := by show Value.ref (adr G (hN h)) = _; rw [adr_lt G hM]
    simp only [List.map_cons, ha] at kk
    exact kk
  · rw [cell_arr G (h := sNew h (100, n)) (t := 0) (n := n) (u2_s _ _ _)]
    show H'[gB G + hN h]? = some (arrV (gA G 0) n.toNat (fun j : Nat => .int (iI (hI (sNew h (100, n)) (hN h) j))))
    rw [c1, hA]
    congr 2
    funext j
    have : hI (sNew h (100, n)) (hN h) = fun _ => 0 := u2_s _ _ _
    rw [this]
    rfl
theorem r_newz {n : Int} (hd : Ins μ pc (.newarray .boolean) 2 pc') (hn : 0 ≤ n ∧ n ≤ 100000) (hM : hN h < 1000000) (k : Co G l μ d mc ms cb sb pc' ls (.ref (hN h) :: st) (sNew h (102, n)) Q) : Co G l μ d mc ms (cb + 1) (sb + n.toNat) pc ls (vI n :: st) h Q := by
  obtain ⟨hdc, rfl⟩ := hd
  intro p e s m args below meth c H locs cells slots lsR C hH hS hL hcc hs
  obtain ⟨e1, e2⟩ := iI_idx (z := n) (n := n + 1) (by omega) (by omega)
  refine va_newaK (atype := .boolean) C.1 C.2.1 (C.tb _ aBool) rfl hdc rfl (fun q => e1 (Or.inl q)) e2 (show n.toNat * 1 ≤ 536870912 by omega) (show cells + 1 ≤ mc by omega) (show slots + n.toNat ≤ ms by omega) hH.1 (fun H' cA c1 c2 c3 c4 c5 => ?_)
  have hA : cA = gA G 2 := by
    have := (C.K.2 2 _ rfl).2
    have h2 : s.vm.findClass ("[" ++ FieldType.boolean.toString) = some (gA G 2) := this
    have h3 : s.vm.findClass ("[" ++ FieldType.boolean.toString) = some cA := c5
    rw [h2] at h3
    exact (Option.some.inj h3).symm
  have kk := k p e s m args below meth c H' locs (cells + 1) (slots + n.toNat) lsR C (hH.new hM (by rw [c2, hH.1]) (fun q hq => c3 q (by rw [← hH.1]; exact hq)) ?_) (hS.new (by rw [c2, hH.1]) (fun q hq => c3 q (by rw [← hH.1]; exact hq))) hL (by omega) (by omega)
  · have ha : tv G (.ref (hN h)) = .ref (gB G + hN h) := by show Value.ref (adr G (hN h)) = _; rw [adr_lt G hM]
    simp only [List.map_cons, ha] at kk
    exact kk
  · rw [cell_arr G (h := sNew h (102, n)) (t := 2) (n := n) (u2_s _ _ _)]
    show H'[gB G + hN h]? = some (arrV (gA G 2) n.toNat (fun j : Nat => .int (iI (hI (sNew h (102, n)) (hN h) j))))
    rw [c1, hA]
    congr 2
    funext j
    have : hI (sNew h (102, n)) (hN h) = fun _ => 0 := u2_s _ _ _
    rw [this]
    rfl
theorem r_newl {n : Int} (hd : Ins μ pc (.newarray .long) 2 pc') (hn : 0 ≤ n ∧ n ≤ 100000) (hM : hN h < 1000000) (k : Co G l μ d mc ms cb sb pc' ls (.ref (hN h) :: st) (sNew h (101, n)) Q) : Co G l μ d mc ms (cb + 1) (sb + n.toNat) pc ls (vI n :: st) h Q := by
  obtain ⟨hdc, rfl⟩ := hd
  intro p e s m args below meth c H locs cells slots lsR C hH hS hL hcc hs
  obtain ⟨e1, e2⟩ := iI_idx (z := n) (n := n + 1) (by omega) (by omega)
  refine va_newaK (atype := .long) C.1 C.2.1 (C.tb _ aLong) rfl hdc rfl (fun q => e1 (Or.inl q)) e2 (show n.toNat * 8 ≤ 536870912 by omega) (show cells + 1 ≤ mc by omega) (show slots + n.toNat ≤ ms by omega) hH.1 (fun H' cA c1 c2 c3 c4 c5 => ?_)
  have hA : cA = gA G 1 := by
    have := (C.K.2 1 _ rfl).2
    have h2 : s.vm.findClass ("[" ++ FieldType.long.toString) = some (gA G 1) := this
    have h3 : s.vm.findClass ("[" ++ FieldType.long.toString) = some cA := c5
    rw [h2] at h3
    exact (Option.some.inj h3).symm
  have kk := k p e s m args below meth c H' locs (cells + 1) (slots + n.toNat) lsR C (hH.new hM (by rw [c2, hH.1]) (fun q hq => c3 q (by rw [← hH.1]; exact hq)) ?_) (hS.new (by rw [c2, hH.1]) (fun q hq => c3 q (by rw [← hH.1]; exact hq))) hL (by omega) (by omega)
  · have ha : tv G (.ref (hN h)) = .ref (gB G + hN h) := by show Value.ref (adr G (hN h)) = _; rw [adr_lt G hM]
    simp only [List.map_cons, ha] at kk
    exact kk
  · rw [cell_arr G (h := sNew h (101, n)) (t := 1) (n := n) (u2_s _ _ _)]
    show H'[gB G + hN h]? = some (arrV (gA G 1) n.toNat (fun j : Nat => .long (iL (hJ (sNew h (101, n)) (hN h) j))))
    rw [c1, hA]
    congr 2
    funext j
    have : hJ (sNew h (101, n)) (hN h) = fun _ => 0 := u2_s _ _ _
    rw [this]
    rfl
/-- the words of a class that is made at a place -/
def NwC (μ : MU) (pc pc' ci : Nat) : Prop := ∃ (idx : Nat) (r : vw_C) (ty : Nat → FieldType), decode (mB μ) pc = .ok (.new idx, 3) ∧ pc' = pc + 3 ∧ cl0[ci]? = some r ∧ clT[ci]? = some ty ∧ ci < 100 ∧ Cond.classLink (mO μ) idx r.1 ∈ tb ∧ Cond.instantiable r.1 r.2.2 ∈ tb ∧ Cond.initialized r.1 ∈ tb ∧ (∀ w ∈ u_ws r.1 r.2.1 r.2.2, w ∈ tb) ∧ (∀ k, k < r.2.2 → parseFieldDescriptor (r.2.1 k).2.2.1 = some (ty k)) ∧ (∀ k, k < r.2.2 → defaultValue (ty k) = (if ftag (ty k) = 0 then vI 0 else if ftag (ty k) = 1 then vL 0 else .null))
theorem r_new {ci : Nat} (hd : NwC μ pc pc' ci) (hM : hN h < 1000000) (k : Co G l μ d mc ms cb sb pc' ls (.ref (hN h) :: st) (sNew h (ci, 0)) Q) : Co G l μ d mc ms (cb + 1) (sb + cnum ci) pc ls st h Q := by
  obtain ⟨idx, r, ty, hdc, rfl, hr, ht, hci, w1, w2, w3, w4, w5, w6⟩ := hd
  intro p e s m args below meth c H locs cells slots lsR C hH hS hL hcc hs
  have hKn := C.K.1 ci r hr
  have hcn := cnum_of hr
  rw [hcn] at hs
  refine W.newcK C.1 C.2.1 C.own (C.tb _ w1) (C.tb _ w2) (C.tb _ w3) rfl hdc (show cells + 1 ≤ mc by omega) (show slots + r.2.2 ≤ ms by omega) hKn.2.1 hH.1 (fun H' kC hkC c1 c2 c3 => ?_)
  have kk := k p e s m args below meth c H' locs (cells + 1) (slots + r.2.2) lsR C (hH.new hM (by rw [c2, hH.1]) (fun q hq => c3 q (by rw [← hH.1]; exact hq)) ?_) (hS.new (by rw [c2, hH.1]) (fun q hq => c3 q (by rw [← hH.1]; exact hq))) hL (by omega) (by omega)
  · have ha : tv G (.ref (hN h)) = .ref (gB G + hN h) := by show Value.ref (adr G (hN h)) = _; rw [adr_lt G hM]
    simp only [List.map_cons, ha] at kk
    exact kk
  · rw [cell_obj G (h := sNew h (ci, 0)) (ci := ci) (n := 0) (u2_s _ _ _) hci]
    refine ⟨r, hr, (u_born ty C.tb w4 hKn hkC c1 w5).to (fun j hj => ?_)⟩
    rw [w6 j hj]
    have e1 : hI (sNew h (ci, 0)) (hN h) = fun _ => 0 := u2_s _ _ _
    have e2 : hJ (sNew h (ci, 0)) (hN h) = fun _ => 0 := u2_s _ _ _
    have e3 : hR (sNew h (ci, 0)) (hN h) = fun _ => none := u2_s _ _ _
    unfold vp_V fsE
    rw [hcn]
    have hg : ((List.range r.2.2).map (fun j => fv G (sNew h (ci, 0)) (hN h) (ctag ci j) j)).getD j .null = fv G (sNew h (ci, 0)) (hN h) (ctag ci j) j := by
      simp [List.getD_eq_getElem?_getD, hj]
    rw [hg]
    have hct : ctag ci j = ftag (ty j) := by unfold ctag; rw [ht]
    unfold fv
    rw [hct, e1, e2, e3]
    rfl
end NEW
