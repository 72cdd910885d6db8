-- ===== a script put into the row of scripts =====
section AAS
variable {G : gG} {l : Launch} {μ : MU} {d mc ms cb sb : Nat} {pc pc' : Nat} {ls : List (Option Value)} {st : List Value} {h : ph} {Q : Option Value → ph → Prop}
theorem r_aast3 {q r : Nat} {n i : Int} (hd : Ins μ pc .aastore 1 pc') (ha : Aq h q 3 n) (hi : 0 ≤ i ∧ i < n) (ho : Ob h r 4) (k : Co G l μ d mc ms cb sb pc' ls st (sR h q i (some r)) Q) : Co G l μ d mc ms cb sb pc ls (.ref r :: vI i :: .ref q :: st) h Q := by
  obtain ⟨hd, rfl⟩ := hd
  intro p e s m args below meth c H locs cells slots lsR C hH hS hL hcc hs
  show W p l e (rmD d mc ms) s m args below meth c H locs cells slots _ (F0 m pc lsR (Value.ref (adr G r) :: Value.int (iI i) :: Value.ref (adr G q) :: st.map (tv G)))
  rw [hH.lt ha.1.1, hH.lt ho.1]
  obtain ⟨e1, e2⟩ := iI_idx hi ha.2.2
  have w2 : (wsG G h)[r]? = some (gB G + r, .inr (4, fsE G h r 4)) := (ws_get G h ho.1).trans (by
    unfold cellE
    rw [if_pos (by rw [ho.2]; decide), ho.2])
  refine pu_aast (D := gD G) (f := fun j => (hR h q j).map (adr G)) (n := n.toNat) C.1 C.2.1 C.K hH.2.2 (ws_D G h) hS q 3 r 4 (arr_at G ha.1.1 ha.1.2) (show (tyG G)[3]? = some (gA G 3, .object "RockingGuard$Script") from rfl) w2 (show cl0[4]? = some _ from rfl) e1 hd (fun H1 locs1 hz hP1 hS1 => ?_)
  refine k p e s m args below meth c H1 locs1 cells slots lsR C (hH.put (h' := sR h q i (some r)) rfl ha.1.1 ?_ (fun j hj => cell_sRA_n G h _ hj) hP1 hz) hS1 hL hcc hs
  rw [cell_arr G (h := sR h q i (some r)) (t := 3) ha.1.2, e2]
  show (Sum.inl (gA G 3, n.toNat, Sum.inr (Sum.inr (Sum.inr (Sum.inr (fun j : Nat => (hR (sR h q i (some r)) q j).map (adr G)))))) : va_E) = _
  rw [hR_sR_s]
  congr 7
  funext j
  by_cases ej : j = i.toNat
  · subst ej
    have e3 : ((i.toNat : Nat) : Int) = i := by omega
    rw [e3, u1_s]
    simp [va_up, adr_lt G (show r < 1000000 by have := hH.2.1; have := ho.1; omega)]
  · rw [u1_n _ _ (by omega)]
    simp [va_up, ej]
end AAS
