-- ===== arraycopy, bitCount, fill =====
/-- n places of f from sp on laid over g from dp on -/
def cpI (f g : Int → Int) (sp dp n : Int) : Int → Int := fun j => if dp ≤ j ∧ j < dp + n then f (sp + (j - dp)) else g j
section CPY
variable {G : gG} {l : Launch} {μ : MU} {d mc ms cb sb : Nat} {pc pc' : Nat} {ls : List (Option Value)} {st : List Value} {h : ph} {Q : Option Value → ph → Prop}
theorem nn_I {z : Int} (h : 0 ≤ z ∧ z ≤ 2147483647) : ¬ iI z < 0 ∧ (iI z).toInt = z ∧ (iI z).toNatClampNeg = z.toNat := by
  have e : (iI z).toInt = z := iI_int (by omega)
  refine ⟨fun q => ?_, e, ?_⟩
  · have := Int32.lt_iff_toInt_lt.mp q
    rw [e] at this
    have e0 : (0 : Int32).toInt = 0 := rfl
    omega
  · show (iI z).toInt.toNat = z.toNat
    rw [e]
theorem r_copy {q0 q1 : Nat} {n0 n1 sp dp n : Int} (hd : CalA μ pc pc') (hdp : 1 ≤ d) (hcat : (st.map fun v => v.category).sum ≤ 8) (ha0 : Aq h q0 0 n0) (ha1 : Aq h q1 0 n1) (h1 : 0 ≤ sp) (h2 : 0 ≤ dp) (h3 : 0 ≤ n) (h4 : sp + n ≤ n0) (h5 : dp + n ≤ n1) (k : Co G l μ d mc ms cb sb pc' ls st (sA h q1 (cpI (hI h q0) (hI h q1) sp dp n)) Q) : Co G l μ d mc ms cb sb pc ls (vI n :: vI dp :: .ref q1 :: vI sp :: .ref q0 :: st) h Q := by
  obtain ⟨idx, hdc, rfl, g1, g2, g3, g4⟩ := hd
  intro p e s m args below meth c H locs cells slots lsR C hH hS hL hcc hs
  show W p l e (rmD d mc ms) s m args below meth c H locs cells slots _ (F0 m pc lsR (Value.int (iI n) :: Value.int (iI dp) :: Value.ref (adr G q1) :: Value.int (iI sp) :: Value.ref (adr G q0) :: st.map (tv G)))
  rw [hH.lt ha0.1.1, hH.lt ha1.1.1]
  obtain ⟨hn0, hn1⟩ := ha0.2
  obtain ⟨hm0, hm1⟩ := ha1.2
  obtain ⟨a1, a2, a3⟩ := nn_I (z := sp) (by omega)
  obtain ⟨b1, b2, b3⟩ := nn_I (z := dp) (by omega)
  obtain ⟨c1, c2, c3⟩ := nn_I (z := n) (by omega)
  have hK := C.K
  have hP := hH.2.2
  have w0 := arr_at G ha0.1.1 ha0.1.2
  have w1 := arr_at G ha1.1.1 ha1.1.2
  intro T hT X
  have hc0 : H[gB G + q0]? = some (vp_cell (gA G 0) (n0.toNat, .inl (fun j : Nat => iI (hI h q0 j)))) := hP q0 _ w0
  have hc1 : H[gB G + q1]? = some (vp_cell (gA G 0) (n1.toNat, .inl (fun j : Nat => iI (hI h q1 j)))) := hP q1 _ w1
  obtain ⟨-, k0, hk0, cm0, hkk0⟩ := (hK.2 0 _ (show (tyG G)[0]? = some (gA G 0, .int) from rfl)).1 n0.toNat (fun j => .int (iI (hI h q0 j)))
  obtain ⟨-, k1, hk1, cm1, hkk1⟩ := (hK.2 0 _ (show (tyG G)[0]? = some (gA G 0, .int) from rfl)).1 n1.toNat (fun j => .int (iI (hI h q1 j)))
  have hk0 : s.vm.classes[(vp_cell (gA G 0) (n0.toNat, .inl (fun j : Nat => iI (hI h q0 j)))).cls]? = some k0 := hk0
  have hk1 : s.vm.classes[(vp_cell (gA G 0) (n1.toNat, .inl (fun j : Nat => iI (hI h q1 j)))).cls]? = some k1 := hk1
  have hkk0 : k0.kind = Kind.array cm0 .int := hkk0
  have hkk1 : k1.kind = Kind.array cm1 .int := hkk1
  obtain ⟨vm', X', step⟩ := X.arraycopy C.1 C.own (C.tb _ g1) (C.tb _ g2) (C.tb _ g3) (C.tb _ g4) (src := gB G + q0) (dst := gB G + q1) (cs := vp_cell (gA G 0) (n0.toNat, .inl (fun j : Nat => iI (hI h q0 j)))) (cd := vp_cell (gA G 0) (n1.toNat, .inl (fun j : Nat => iI (hI h q1 j)))) (srcPos := iI sp) (destPos := iI dp) (n := iI n) (by rw [hT]; exact hc0) (by rw [hT]; exact hc1)
    (fun _ h => by cases h) (fun _ h => by cases h) (fun h => by cases h) (fun h => by cases h) hk0 hk1 hkk0 hkk1 (by decide) a1 b1 c1
    (by rw [a2, c2]; show ¬ _ > ((arrV (gA G 0) n0.toNat (fun j => .int (iI (hI h q0 j)))).slots.size : Int); rw [arrV_size]; omega)
    (by rw [b2, c2]; show ¬ _ > ((arrV (gA G 0) n1.toNat (fun j => .int (iI (hI h q1 j)))).slots.size : Int); rw [arrV_size]; omega)
    (fun vm₁ _ i hi => by
      rw [c3] at hi
      have e : (vp_cell (gA G 0) (n0.toNat, .inl (fun j : Nat => iI (hI h q0 j)))).slots.getD ((iI sp).toNatClampNeg + i) .null = .int (iI (hI h q0 ((iI sp).toNatClampNeg + i : Nat))) := by
        show (arrV (gA G 0) n0.toNat (fun j => .int (iI (hI h q0 j)))).slots.getD _ _ = _
        rw [Array.getD_eq_getD_getElem?, arrV_read _ _ (by rw [a3]; omega)]
        rfl
      refine ⟨?_, ?_⟩
      · rw [e]; rfl
      · rw [e]; exact trivial)
    (g := F0 m pc lsR (.int (iI n) :: .int (iI dp) :: .ref (gB G + q1) :: .int (iI sp) :: .ref (gB G + q0) :: st.map (tv G))) rfl (by rw [C.2.2.2.1]; exact hL.1) (rest := st.map (tv G)) rfl (by rw [C.2.1]; exact hdc) (by show 1 ≤ d; exact hdp) (by
      have hc := cat_tv G st
      rw [hc]
      show 2 * 0 + _ + (nativeFrameWords "java/lang/System" "arraycopy" 5 + 11) ≤ 100 * d
      have : nativeFrameWords "java/lang/System" "arraycopy" 5 ≤ 60 := by decide +kernel
      omega)
  have e1 : copied (vp_cell (gA G 0) (n0.toNat, .inl (fun j : Nat => iI (hI h q0 j)))) (vp_cell (gA G 0) (n1.toNat, .inl (fun j : Nat => iI (hI h q1 j)))) (iI sp) (iI dp) (iI n) = vp_cell (gA G 0) (n1.toNat, .inl (va_cpy (fun j : Nat => iI (hI h q0 j)) (fun j : Nat => iI (hI h q1 j)) (iI sp).toNatClampNeg (iI dp).toNatClampNeg (iI n).toNatClampNeg)) := va_copied (fun z => .int z) (gA G 0) (gA G 0) (fun j : Nat => iI (hI h q0 j)) (fun j : Nat => iI (hI h q1 j)) (show (iI sp).toNatClampNeg + (iI n).toNatClampNeg ≤ n0.toNat by rw [a3, c3]; omega)
  rw [e1, a3, b3, c3] at X' step
  have e2 : va_cpy (fun j : Nat => iI (hI h q0 j)) (fun j : Nat => iI (hI h q1 j)) sp.toNat dp.toNat n.toNat = fun j : Nat => iI (cpI (hI h q0) (hI h q1) sp dp n j) := by
    funext j
    unfold va_cpy cpI
    by_cases hj : dp.toNat ≤ j ∧ j < dp.toNat + n.toNat
    · rw [if_pos hj, if_pos (by omega)]
      show iI (hI h q0 ((sp.toNat + (j - dp.toNat) : Nat) : Int)) = _
      rw [show ((sp.toNat + (j - dp.toNat) : Nat) : Int) = sp + ((j : Int) - dp) by omega]
    · rw [if_neg hj, if_neg (by omega)]
  rw [e2] at X' step
  have hl : gB G + q1 < H.size := (Array.getElem?_eq_some_iff.mp hc1).1
  have hheap : ((T.setVm vm').setCell (gB G + q1) (vp_cell (gA G 0) (n1.toNat, .inl (fun j : Nat => iI (cpI (hI h q0) (hI h q1) sp dp n j))))).heap = H.setIfInBounds (gB G + q1) (vp_cell (gA G 0) (n1.toNat, .inl (fun j : Nat => iI (cpI (hI h q0) (hI h q1) sp dp n j)))) := by rw [← hT]; rfl
  have oq : ∀ q : Nat, q ≠ gB G + q1 → (H.setIfInBounds (gB G + q1) (vp_cell (gA G 0) (n1.toNat, .inl (fun j : Nat => iI (cpI (hI h q0) (hI h q1) sp dp n j)))))[q]? = H[q]? := fun q hq => by simp [Array.getElem?_setIfInBounds, Ne.symm hq]
  have hD := ws_D G h
  have hP1 : va_P (gD G) cl0 ((wsG G h).set q1 (gB G + q1, .inl (gA G 0, n1.toNat, .inl (fun j : Nat => iI (cpI (hI h q0) (hI h q1) sp dp n j))))) (H.setIfInBounds (gB G + q1) (vp_cell (gA G 0) (n1.toNat, .inl (fun j : Nat => iI (cpI (hI h q0) (hI h q1) sp dp n j))))) := hP.set hD w1 (show (H.setIfInBounds (gB G + q1) (vp_cell (gA G 0) (n1.toNat, .inl (fun j : Nat => iI (cpI (hI h q0) (hI h q1) sp dp n j)))))[gB G + q1]? = some (vp_cell (gA G 0) (n1.toNat, .inl (fun j : Nat => iI (cpI (hI h q0) (hI h q1) sp dp n j)))) by simp [Array.getElem?_setIfInBounds, hl]) oq
  have hS1 : ∀ xs : List (Value × Nat), va_S (Ab G) s.heap (H.setIfInBounds (gB G + q1) (vp_cell (gA G 0) (n1.toNat, .inl (fun j : Nat => iI (cpI (hI h q0) (hI h q1) sp dp n j))))) (locs ++ xs.map (fun q => ({ base := gB G + q1, slot := dp.toNat + q.snd } : Loc))) := fun xs => ⟨by simp; exact hS.1, fun q u1 u2 => by
      rw [oq q (fun e => u2 (by rw [e]; exact hD.2 q1 _ w1))]
      exact hS.2.1 q u1 u2, fun q hq => by
      rcases List.mem_append.mp hq with h | h
      · exact hS.2.2 q h
      · obtain ⟨z, -, hz⟩ := List.mem_map.mp h
        rw [← hz]
        exact hD.2 q1 _ w1⟩
  have hh : HR G (sA h q1 (cpI (hI h q0) (hI h q1) sp dp n)) (H.setIfInBounds (gB G + q1) (vp_cell (gA G 0) (n1.toNat, .inl (fun j : Nat => iI (cpI (hI h q0) (hI h q1) sp dp n j))))) := by
    refine hH.put (k := q1) rfl ha1.1.1 ?_ (fun j hj => cell_sA_n G h _ hj) hP1 (by simp)
    rw [cell_arr G (h := sA h q1 (cpI (hI h q0) (hI h q1) sp dp n)) (t := 0) ha1.1.2]
    show (Sum.inl (gA G 0, n1.toNat, Sum.inl (fun j : Nat => iI (hI (sA h q1 (cpI (hI h q0) (hI h q1) sp dp n)) q1 j))) : va_E) = _
    rw [hI_sA_s]
  obtain ⟨t, u1, u2⟩ := k p e s m args below meth c _ _ cells slots lsR C hh (hS1 _) hL hcc hs _ hheap X'
  exact ⟨t, step t u1, u2⟩
end CPY
def bcZ (x : Int) : Int := (fun y : Int => (fun z : Int => (fun u : Int => (fun v : Int => (fun w : Int => zand w 63) (v + zush v 16)) (u + zush u 8)) (zand (z + zush z 4) 252645135)) (zand y 858993459 + zand (zush y 2) 858993459)) (x - zand (zush x 1) 1431655765)
theorem bcZ_all : ∀ n : Fin 1024, bcZ n.val = pcN n.val := by decide +kernel
set_option maxRecDepth 20000 in
theorem ev_bitCount {G : gG} {l : Launch} {h : ph} {n : Nat} (hn : n < 1024) : Ev G l mJ6_bitCount_0f7a4 0 0 0 [vI (n : Int)] h (eI (pcN n) h) := by
  refine ev_of (ls := [some (vI (n : Int))]) (by decide +kernel) (Nat.le_of_ble_eq_true rfl) rfl ?_
  refine co_iload_n dJ6_bitCount_0f7a4_0 rfl ?_
  refine co_iload_n dJ6_bitCount_0f7a4_1 rfl ?_
  refine co_iconst dJ6_bitCount_0f7a4_2 ?_
  refine co_iushr dJ6_bitCount_0f7a4_3 ?_
  refine r_ldcI dJ6_bitCount_0f7a4_4 ?_
  refine co_iand dJ6_bitCount_0f7a4_7 ?_
  refine co_isub dJ6_bitCount_0f7a4_8 ?_
  refine s_istore_n (ls' := [_]) dJ6_bitCount_0f7a4_9 (Nat.le_of_ble_eq_true rfl) rfl rfl ?_
  refine co_iload_n dJ6_bitCount_0f7a4_10 rfl ?_
  refine r_ldcI dJ6_bitCount_0f7a4_11 ?_
  refine co_iand dJ6_bitCount_0f7a4_14 ?_
  refine co_iload_n dJ6_bitCount_0f7a4_15 rfl ?_
  refine co_iconst dJ6_bitCount_0f7a4_16 ?_
  refine co_iushr dJ6_bitCount_0f7a4_17 ?_
  refine r_ldcI dJ6_bitCount_0f7a4_18 ?_
  refine co_iand dJ6_bitCount_0f7a4_21 ?_
  refine co_iadd dJ6_bitCount_0f7a4_22 ?_
  refine s_istore_n (ls' := [_]) dJ6_bitCount_0f7a4_23 (Nat.le_of_ble_eq_true rfl) rfl rfl ?_
  refine co_iload_n dJ6_bitCount_0f7a4_24 rfl ?_
  refine co_iload_n dJ6_bitCount_0f7a4_25 rfl ?_
  refine co_iconst dJ6_bitCount_0f7a4_26 ?_
  refine co_iushr dJ6_bitCount_0f7a4_27 ?_
  refine co_iadd dJ6_bitCount_0f7a4_28 ?_
  refine r_ldcI dJ6_bitCount_0f7a4_29 ?_
  refine co_iand dJ6_bitCount_0f7a4_32 ?_
  refine s_istore_n (ls' := [_]) dJ6_bitCount_0f7a4_33 (Nat.le_of_ble_eq_true rfl) rfl rfl ?_
  refine co_iload_n dJ6_bitCount_0f7a4_34 rfl ?_
  refine co_iload_n dJ6_bitCount_0f7a4_35 rfl ?_
  refine co_bipush (z := 8) dJ6_bitCount_0f7a4_36 rfl ?_
  refine co_iushr dJ6_bitCount_0f7a4_38 ?_
  refine co_iadd dJ6_bitCount_0f7a4_39 ?_
  refine s_istore_n (ls' := [_]) dJ6_bitCount_0f7a4_40 (Nat.le_of_ble_eq_true rfl) rfl rfl ?_
  refine co_iload_n dJ6_bitCount_0f7a4_41 rfl ?_
  refine co_iload_n dJ6_bitCount_0f7a4_42 rfl ?_
  refine co_bipush (z := 16) dJ6_bitCount_0f7a4_43 rfl ?_
  refine co_iushr dJ6_bitCount_0f7a4_45 ?_
  refine co_iadd dJ6_bitCount_0f7a4_46 ?_
  refine s_istore_n (ls' := [_]) dJ6_bitCount_0f7a4_47 (Nat.le_of_ble_eq_true rfl) rfl rfl ?_
  refine co_iload_n dJ6_bitCount_0f7a4_48 rfl ?_
  refine co_bipush (z := 63) dJ6_bitCount_0f7a4_49 rfl ?_
  refine co_iand dJ6_bitCount_0f7a4_51 ?_
  exact co_ireturn dJ6_bitCount_0f7a4_52 rfl (eI_of (bcZ_all ⟨n, hn⟩) rfl)
def fiI (f : Int → Int) (i n v : Int) : Int → Int := fun j => if i ≤ j ∧ j < n then v else f j
theorem fiI_0 (f : Int → Int) (v : Int) {i n : Int} (h : n ≤ i) : fiI f i n v = f := by
  funext j
  unfold fiI
  rw [if_neg (by omega)]
theorem fiI_s (f : Int → Int) (v : Int) {i n : Int} (h : i < n) : fiI (u1 f i v) (i + 1) n v = fiI f i n v := by
  funext j
  unfold fiI
  by_cases e : j = i
  · subst e; rw [if_neg (by omega), if_pos (by omega), u1_s]
  · by_cases e2 : i + 1 ≤ j ∧ j < n
    · rw [if_pos e2, if_pos (by omega)]
    · rw [if_neg e2, if_neg (by omega), u1_n _ _ e]
set_option maxRecDepth 20000 in
theorem ev_fill {G : gG} {l : Launch} {h : ph} {q : Nat} {n v : Int} (ha : Aq h q 0 n) : Ev G l mJ7_fill_53178 0 0 0 [.ref q, vI v] h (eV (sA h q (fiI (hI h q) 0 n v))) := by
  have hn := ha.2
  refine ev_of (ls := [some (.ref q), some (vI v), none, none]) (by decide +kernel) (Nat.le_of_ble_eq_true rfl) rfl ?_
  have loop : ∀ (e : Nat) (i : Int) (f : Int → Int), 0 ≤ i → i + e = n → Co G l mJ7_fill_53178 0 0 0 0 0 5 [some (.ref q), some (vI v), some (vI i), some (vI n)] [] (sA h q f) (eV (sA h q (fiI f i n v))) := by
    intro e
    induction e with
    | zero =>
      intro i f h0 hi
      refine co_iload_n dJ7_fill_53178_5 rfl ?_
      refine co_iload_n dJ7_fill_53178_6 rfl ?_
      refine co_icmp_ge (tgt := 20) dJ7_fill_53178_7 rfl (by omega) (by omega) (fun c7 => ?_) (fun c7 => ?_)
      rotate_left
      · exact absurd c7 (by omega)
      exact co_return dJ7_fill_53178_20 rfl (eV_of (by rw [fiI_0 _ _ (by omega)]))
    | succ e ih =>
      intro i f h0 hi
      refine co_iload_n dJ7_fill_53178_5 rfl ?_
      refine co_iload_n dJ7_fill_53178_6 rfl ?_
      refine co_icmp_ge (tgt := 20) dJ7_fill_53178_7 rfl (by omega) (by omega) (fun c7 => ?_) (fun c7 => ?_)
      · exact absurd c7 (by omega)
      refine co_aload_n dJ7_fill_53178_10 rfl ?_
      refine co_iload_n dJ7_fill_53178_11 rfl ?_
      refine co_iload_n dJ7_fill_53178_12 rfl ?_
      refine r_iast dJ7_fill_53178_13 (show Aq (sA h q f) q 0 n from ha) (by omega) ?_
      refine s_iinc (ls' := [_, _, _, _]) dJ7_fill_53178_14 rfl (Nat.le_of_ble_eq_true rfl) rfl rfl ?_
      refine co_goto (tgt := 5) dJ7_fill_53178_17 rfl ?_
      have e9 : sI (sA h q f) q i v = sA h q (u1 f i v) := by unfold sI; rw [hI_sA_s, sA_sA]
      rw [e9, ← fiI_s f v (by omega : i < n)]
      exact ih (i + 1) (u1 f i v) (by omega) (by omega)
  refine co_iconst dJ7_fill_53178_0 ?_
  refine s_istore_n (ls' := [_, _, _, _]) dJ7_fill_53178_1 (Nat.le_of_ble_eq_true rfl) rfl rfl ?_
  refine co_aload_n dJ7_fill_53178_2 rfl ?_
  refine r_alen dJ7_fill_53178_3 ha (by decide) ?_
  refine s_istore_n (ls' := [_, _, _, _]) dJ7_fill_53178_4 (Nat.le_of_ble_eq_true rfl) rfl rfl ?_
  have := loop n.toNat 0 (hI h q) (by decide) (by omega)
  rw [sA_self] at this
  exact this
