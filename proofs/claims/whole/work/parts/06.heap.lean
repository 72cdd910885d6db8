-- writes that also say that the heap is as large as it was (the kit's own rows, va_put and its like, leave that out)
section PU
variable {p : Program} {l : Launch} {e : Env} {R : Room} {s : State} {m : MethodId} {args : Array Value} {below : List Frame} {meth : Method} {c : Code} {H : Heap} {locs : List Loc} {cells slots : Nat} {Q : State → Prop}
variable {cc : ByteArray} {pc : Nat} {ls : Array Slot} {rest : List Value} {D : va_G} {cl : List vw_C} {A : Nat → Prop} {a : Nat} {tys : List (ClassId × FieldType)} {ws : va_W} {H0 : Heap}
theorem pu_put (hexec : p.tables.exec = Jvm.exec) (hb : c.code = cc) {own ref C : String} {T : u_T} {N ci index : Nat} {Ts : List Cond} (hts : ∀ w ∈ Ts, w.before args s = true) (hin : ∀ w ∈ u_ws C T N, w ∈ Ts) (ty0 : Nat → FieldType) (hty : ∀ k, k < N → parseFieldDescriptor (T k).2.2.1 = some (ty0 k)) (hnm : ∀ a, a < N → ∀ b, b < N → a ≠ b → (T a).2.1 ≠ (T b).2.1) (hown : s.vm.findClass own = some m.cls) (hK : va_K D cl tys s) (hP : va_P D cl ws H) (hD : va_D A ws) (hS0 : va_S A H0 H locs) (q0 : Nat) {fs : List Value} (he : ws[q0]? = some (a, .inr (ci, fs))) (hc : cl[ci]? = some (C, T, N)) (k : Nat) (hk : k < N) (hlink : (Cond.fieldLink own index ref (T k).2.1 (T k).2.2.1).before args s = true) (hsame : ∀ x, s.fieldFound? (T k).1 (T k).2.1 (T k).2.2.1 = some x → s.fieldFound? ref (T k).2.1 (T k).2.2.1 = some x) (hfin : (T k).2.2.2 = false ∨ ((T k).2.2.2 = true ∧ meth.name = "<init>" ∧ (T k).1 = own)) {ty : FieldType} {v : Value} (hd : parseFieldDescriptor (T k).2.2.1 = some ty) (hn : narrow ty v = v) (hfit : fits ty v = true) (hl : k < fs.length)
    (hdg : decode cc pc = .ok (.putfield index, 3)) (kk : ∀ (H1 : Heap) (locs1 : List Loc), H1.size = H.size → va_P D cl (ws.set q0 (a, .inr (ci, fs.set k v))) H1 → va_S A H0 H1 locs1 → W p l e R s m args below meth c H1 locs1 cells slots Q (F0 m (pc + 3) ls rest)) : W p l e R s m args below meth c H locs cells slots Q (F0 m pc ls (v :: .ref a :: rest)) := by
  have hap := va_apart (own := own) hts hin ty0 hty hnm hK hc
  obtain ⟨r, h1, cell, q1, q2, q3, q4⟩ := hP q0 _ he
  have hr : r = (C, T, N) := Option.some.inj (h1.symm.trans hc)
  subst hr
  obtain ⟨hS, hfc, kC, hkC, hkind⟩ := hK.1 ci _ hc
  obtain ⟨cf, kf, fi, f, hi, hsl⟩ := hS k hk
  have hlay := hts _ (hin _ (u_in_lay hk))
  unfold u_lay at hlay
  have hst := (u_facts hfc hkC (u_lays hts hin hk) hi).1
  rcases hfin with hfin | ⟨hfin, hin2, hdecl⟩
  · rw [if_neg (by rw [hfin]; decide)] at hlay
    have h6 := u_store hfc hkC hkind hlay hi hd hn hfit
    refine W.putK hexec hb (f := f) ⟨hown, hlink, ⟨_, _, _, hsame _ hi⟩, hst⟩ (by rw [q2]; exact h6) q1 q3 (by rw [hsl]; exact k2_hasslot (q4 k hk)) rfl rfl hdg fun H' e1 e2 e3 => ?_
    rw [hsl] at e1 ⊢
    exact kk H' _ e2 (hP.set hD he ⟨_, hc, t_OB.to (V := updV (vp_V fs) k v) ⟨_, e1, q2, q3, t_set q4 hap hk v⟩ (fun j _ => vp_updV_set hl v j)⟩ e3) (hS0.put e2 e3 (hD.2 q0 _ he))
  · rw [if_pos hfin] at hlay
    have hcf : m.cls = cf := by
      obtain ⟨_, _, c', _, _, _, -, -, hf', -, -, -, hown2, -⟩ := Cond.laysFinal_spec hlay
      have e1 : c' = cf := by have := hi.symm.trans hf'; simp at this; exact this.1.symm
      rw [hdecl] at hown2
      rw [← e1]; exact Option.some.inj (hown.symm.trans hown2)
    have h6 := u_fits hfc hkC hkind (Or.inr hlay) hi hd hn hfit
    refine W.putFinK hexec hb hown hlink (hsame _ hi) hst hcf hin2 (by rw [q2]; exact h6) q1 q3 (by rw [hsl]; exact k2_hasslot (q4 k hk)) rfl rfl hdg fun H' e1 e2 e3 => ?_
    rw [hsl] at e1 ⊢
    exact kk H' _ e2 (hP.set hD he ⟨_, hc, t_OB.to (V := updV (vp_V fs) k v) ⟨_, e1, q2, q3, t_set q4 hap hk v⟩ (fun j _ => vp_updV_set hl v j)⟩ e3) (hS0.put e2 e3 (hD.2 q0 _ he))
theorem pu_iast (hexec : p.tables.exec = Jvm.exec) (hb : c.code = cc) (hK : va_K D cl tys s) (hP : va_P D cl ws H) (hD : va_D A ws) (hS : va_S A H0 H locs) (q0 t0 : Nat) {cA : ClassId} {n : Nat} {f : Nat → Int32} (ha : ws[q0]? = some (a, .inl (cA, n, .inl f))) (ht : tys[t0]? = some (cA, .int)) {i : Int32} {x : Int32} (hin : vp_in i n) (hdg : decode cc pc = .ok (.iastore, 1))
    (kk : ∀ (H1 : Heap) (locs1 : List Loc), H1.size = H.size → va_P D cl (ws.set q0 (a, .inl (cA, n, .inl (upd f i.toNatClampNeg x)))) H1 → va_S A H0 H1 locs1 → W p l e R s m args below meth c H1 locs1 cells slots Q (F0 m (pc + 1) ls rest)) : W p l e R s m args below meth c H locs cells slots Q (F0 m pc ls (.int x :: .int i :: .ref a :: rest)) := by
  refine W.iast hexec hb (hP q0 _ ha) ((hK.2 t0 _ ht).1 n (fun j => .int (f j))) (fun q => by cases q) (by show ¬ (i < 0 ∨ (arrV _ _ _).slots.size ≤ _); rw [arrV_size]; exact hin) rfl rfl hdg fun H1 e z oq => ?_
  refine kk H1 _ z (hP.set hD ha ?_ oq) (hS.put z oq (hD.2 q0 _ ha))
  show H1[a]? = some (vp_cell _ _)
  rw [e, vp_cell_i, vp_cell_i, arrV_store]
  congr 2
  funext q
  by_cases hq : q = i.toNatClampNeg
  · subst hq; simp [updV, upd]
  · simp [updV, upd, hq]
theorem pu_zast (hexec : p.tables.exec = Jvm.exec) (hb : c.code = cc) (hK : va_K D cl tys s) (hP : va_P D cl ws H) (hD : va_D A ws) (hS : va_S A H0 H locs) (q0 t0 : Nat) {cA : ClassId} {n : Nat} {f : Nat → Int32} (ha : ws[q0]? = some (a, .inl (cA, n, .inl f))) (ht : tys[t0]? = some (cA, .boolean)) {i : Int32} {x : Int32} (hin : vp_in i n) (hdg : decode cc pc = .ok (.bastore, 1))
    (kk : ∀ (H1 : Heap) (locs1 : List Loc), H1.size = H.size → va_P D cl (ws.set q0 (a, .inl (cA, n, .inl (upd f i.toNatClampNeg (vp_nar .boolean x))))) H1 → va_S A H0 H1 locs1 → W p l e R s m args below meth c H1 locs1 cells slots Q (F0 m (pc + 1) ls rest)) : W p l e R s m args below meth c H locs cells slots Q (F0 m pc ls (.int x :: .int i :: .ref a :: rest)) := by
  refine W.zast hexec hb (hP q0 _ ha) ((hK.2 t0 _ ht).1 n (fun j => .int (f j))) (fun q => by cases q) (by show ¬ (i < 0 ∨ (arrV _ _ _).slots.size ≤ _); rw [arrV_size]; exact hin) rfl rfl hdg fun H1 e z oq => ?_
  refine kk H1 _ z (hP.set hD ha ?_ oq) (hS.put z oq (hD.2 q0 _ ha))
  show H1[a]? = some (vp_cell _ _)
  rw [e, vp_cell_i, vp_cell_i, arrV_store]
  congr 2
  funext q
  by_cases hq : q = i.toNatClampNeg
  · subst hq
    simp [updV, upd, vp_nar]
    try rfl
  · simp [updV, upd, hq]
theorem pu_last (hexec : p.tables.exec = Jvm.exec) (hb : c.code = cc) (hK : va_K D cl tys s) (hP : va_P D cl ws H) (hD : va_D A ws) (hS : va_S A H0 H locs) (q0 t0 : Nat) {cA : ClassId} {n : Nat} {f : Nat → Int64} (ha : ws[q0]? = some (a, .inl (cA, n, .inr (.inl f)))) (ht : tys[t0]? = some (cA, .long)) {i : Int32} {x : Int64} (hin : vp_in i n) (hdg : decode cc pc = .ok (.lastore, 1))
    (kk : ∀ (H1 : Heap) (locs1 : List Loc), H1.size = H.size → va_P D cl (ws.set q0 (a, .inl (cA, n, .inr (.inl (vp_updL f i.toNatClampNeg x))))) H1 → va_S A H0 H1 locs1 → W p l e R s m args below meth c H1 locs1 cells slots Q (F0 m (pc + 1) ls rest)) : W p l e R s m args below meth c H locs cells slots Q (F0 m pc ls (.long x :: .int i :: .ref a :: rest)) := by
  refine W.last hexec hb (hP q0 _ ha) ((hK.2 t0 _ ht).1 n (fun j => .long (f j))) (fun q => by cases q) (by show ¬ (i < 0 ∨ (arrV _ _ _).slots.size ≤ _); rw [arrV_size]; exact hin) rfl rfl hdg fun H1 e z oq => ?_
  refine kk H1 _ z (hP.set hD ha ?_ oq) (hS.put z oq (hD.2 q0 _ ha))
  show H1[a]? = some (vp_cell _ _)
  rw [e, vp_cell_l, vp_cell_l, arrV_store]
  congr 2
  funext q
  by_cases hq : q = i.toNatClampNeg
  · subst hq; simp [updV, vp_updL]
  · simp [updV, vp_updL, hq]
theorem pu_aast (hexec : p.tables.exec = Jvm.exec) (hb : c.code = cc) (hK : va_K D cl tys s) (hP : va_P D cl ws H) (hD : va_D A ws) (hS : va_S A H0 H locs) (q0 t0 qk ci : Nat) {cA : ClassId} {r : vw_C} {n v : Nat} {vs : List Value} {f : Nat → Option Nat} (ha : ws[q0]? = some (a, .inl (cA, n, .inr (.inr (.inr (.inr f)))))) (ht : tys[t0]? = some (cA, .object r.1)) (hv : ws[qk]? = some (v, .inr (ci, vs))) (hc : cl[ci]? = some r) {i : Int32} (hin : vp_in i n) (hdg : decode cc pc = .ok (.aastore, 1))
    (kk : ∀ (H1 : Heap) (locs1 : List Loc), H1.size = H.size → va_P D cl (ws.set q0 (a, .inl (cA, n, .inr (.inr (.inr (.inr (va_up f i.toNatClampNeg (some v)))))))) H1 → va_S A H0 H1 locs1 → W p l e R s m args below meth c H1 locs1 cells slots Q (F0 m (pc + 1) ls rest)) : W p l e R s m args below meth c H locs cells slots Q (F0 m pc ls (.ref v :: .int i :: .ref a :: rest)) := by
  have hlt : i.toNatClampNeg < n := Nat.not_le.mp fun q => hin (Or.inr q)
  have h0 : ¬ i < 0 := fun q => hin (Or.inl q)
  obtain ⟨r', hr', cellV, g1, g2, g3, -⟩ := hP qk _ hv
  have hcls := (hK.1 ci r hc).2
  obtain ⟨kA, comp, k1, k2, k3, -⟩ := (hK.2 t0 _ ht).2
  have hcomp : comp = D.1 ci := Option.some.inj (k3.symm.trans hcls.1)
  subst hcomp
  obtain ⟨kC, hkC, -⟩ := hcls.2
  refine W.aast hexec hb (hP q0 _ ha) (fun q h => by cases h) (fun h => by cases h) k1 k2 rfl hkC ⟨h0, by show _ < (arrV _ _ _).slots.size; rw [arrV_size]; exact hlt⟩ g1 (fun q h => by rw [g3] at h; cases h) (by rw [g2]; exact hkC) (by rw [g2]; exact va_assign hcls) rfl rfl hdg fun H1 e z oq => ?_
  refine kk H1 _ z (hP.set hD ha ?_ oq) (hS.put z oq (hD.2 q0 _ ha))
  show H1[a]? = some (vp_cell _ _)
  rw [e, vp_cell_q, vp_cell_q, arrV_store]
  congr 2
  funext q
  by_cases hq : q = i.toNatClampNeg
  · subst hq; simp [updV, va_up, va_rf]
  · simp [updV, va_up, hq]
end PU
/-- a field's link at a place: getfield or putfield of field j of class ci -/
def FldG (μ : MU) (pc pc' ci j : Nat) : Prop := ∃ (idx : Nat) (r : vw_C), decode (mB μ) pc = .ok (.getfield idx, 3) ∧ pc' = pc + 3 ∧ cl0[ci]? = some r ∧ j < r.2.2 ∧ Cond.fieldLink (mO μ) idx (r.2.1 j).1 (r.2.1 j).2.1 (r.2.1 j).2.2.1 ∈ tb
def FldP (μ : MU) (pc pc' ci j : Nat) (ty : FieldType) : Prop := ∃ (idx : Nat) (r : vw_C), decode (mB μ) pc = .ok (.putfield idx, 3) ∧ pc' = pc + 3 ∧ cl0[ci]? = some r ∧ j < r.2.2 ∧ Cond.fieldLink (mO μ) idx (r.2.1 j).1 (r.2.1 j).2.1 (r.2.1 j).2.2.1 ∈ tb ∧ parseFieldDescriptor (r.2.1 j).2.2.1 = some ty ∧ ((r.2.1 j).2.2.2 = false ∨ ((r.2.1 j).2.2.2 = true ∧ (mY μ).name = "<init>" ∧ (r.2.1 j).1 = mO μ))
theorem cnum_of {ci : Nat} {r : vw_C} (h : cl0[ci]? = some r) : cnum ci = r.2.2 := by unfold cnum; rw [h]
theorem HR.lt {G : gG} {h : ph} {H : Heap} (hH : HR G h H) {k : Nat} (hk : k < hN h) : adr G k = gB G + k := adr_lt G (by have := hH.2.1; omega)
theorem HR.put {G : gG} {h h' : ph} {H H1 : Heap} (hH : HR G h H) (hn : hN h' = hN h) {k : Nat} {e : va_E} (hk : k < hN h) (he : cellE G h' k = e) (ho : ∀ j, j ≠ k → cellE G h' j = cellE G h j) (hP : va_P (gD G) cl0 ((wsG G h).set k (gB G + k, e)) H1) (hz : H1.size = H.size) : HR G h' H1 := by
  rw [ws_set G hn hk he ho] at hP
  exact ⟨by rw [hn, hz]; exact hH.1, by rw [hn]; exact hH.2.1, hP⟩
theorem Ctx.K {G : gG} {μ : MU} {p : Program} {s : State} {m : MethodId} {args : Array Value} {meth : Method} {c : Code} (C : Ctx G μ p s m args meth c) : va_K (gD G) cl0 (tyG G) s := C.2.2.2.2.2.2.2.2.1.1.1
theorem Ctx.tb {G : gG} {μ : MU} {p : Program} {s : State} {m : MethodId} {args : Array Value} {meth : Method} {c : Code} (C : Ctx G μ p s m args meth c) : ∀ w ∈ tb, w.before args s = true := C.2.2.2.2.2.1
theorem Ctx.own {G : gG} {μ : MU} {p : Program} {s : State} {m : MethodId} {args : Array Value} {meth : Method} {c : Code} (C : Ctx G μ p s m args meth c) : s.vm.findClass (mO μ) = some m.cls := C.2.2.2.2.1
theorem Ctx.wd {G : gG} {μ : MU} {p : Program} {s : State} {m : MethodId} {args : Array Value} {meth : Method} {c : Code} (C : Ctx G μ p s m args meth c) : Wd G s := C.2.2.2.2.2.2.2.2.1
/-- at an end: the state that is left -/
theorem end_of {G : gG} {μ : MU} {p : Program} {s t : State} {m : MethodId} {args : Array Value} {meth : Method} {c : Code} {H : Heap} {locs : List Loc} {h : ph} {Q : Option Value → ph → Prop} {r : Option Value} (C : Ctx G μ p s m args meth c) (hH : HR G h H) (hS : va_S (Ab G) s.heap H locs) (hq : Q r h) (ht : t.heap = H) (hW : s.WarmedH t.vm) : Qx G Q args s (.returned (r.map (tv G))) t :=
  ⟨r, h, rfl, hq, by rw [ht]; exact hH, ⟨C.wd.1.warm hW, by
    have h1 : SX G s t.heap := C.wd.2.kept (fun a h1 h2 => by rw [ht]; exact hS.2.1 a h1 h2)
    exact h1.moved hW.alike⟩, hS.F ht⟩
section COH
variable {G : gG} {l : Launch} {μ : MU} {d mc ms cb sb : Nat} {pc pc' : Nat} {ls : List (Option Value)} {st : List Value} {h : ph} {Q : Option Value → ph → Prop}
theorem co_getV {ci j o : Nat} {n : Int} {v : Value} (hd : FldG μ pc pc' ci j) (ho : o < hN h) (hk : hK h o = (ci, n)) (hc : ci < 100) (hv : fv G h o (ctag ci j) j = tv G v) (k : Co G l μ d mc ms cb sb pc' ls (v :: st) h Q) : Co G l μ d mc ms cb sb pc ls (.ref o :: st) h Q := by
  obtain ⟨idx, r, hd, rfl, hr, hj, hw⟩ := hd
  intro p e s m args below meth c H locs cells slots lsR C hH hS hL hcc hs
  have ha := hH.lt ho
  show W p l e (rmD d mc ms) s m args below meth c H locs cells slots _ (F0 m pc lsR (Value.ref (adr G o) :: st.map (tv G)))
  rw [ha]
  refine va_get (D := gD G) (ci := ci) (v := tv G v) (C := r.1) (T := r.2.1) (N := r.2.2) C.1 C.2.1 C.tb (cl_in ci r hr) C.own C.K hH.2.2 o ((ws_get G h ho).trans (by rw [cell_obj G hk hc])) hr j hj (C.tb _ hw) (fun _ h9 => h9) ?_ hd ?_
  · rw [fsE_get G h o ci (by rw [cnum_of hr]; exact hj), hv]
  · exact k p e s m args below meth c H locs cells slots lsR C hH hS hL hcc hs
/-- an int field -/
theorem co_getI {ci j o : Nat} {n : Int} (hd : FldG μ pc pc' ci j) (ho : o < hN h) (hk : hK h o = (ci, n)) (hc : ci < 100) (ht : ctag ci j = 0) (k : Co G l μ d mc ms cb sb pc' ls (vI (hI h o j) :: st) h Q) : Co G l μ d mc ms cb sb pc ls (.ref o :: st) h Q :=
  co_getV hd ho hk hc (by rw [ht]; rfl) k
theorem co_getL {ci j o : Nat} {n : Int} (hd : FldG μ pc pc' ci j) (ho : o < hN h) (hk : hK h o = (ci, n)) (hc : ci < 100) (ht : ctag ci j = 1) (k : Co G l μ d mc ms cb sb pc' ls (vL (hJ h o j) :: st) h Q) : Co G l μ d mc ms cb sb pc ls (.ref o :: st) h Q :=
  co_getV hd ho hk hc (by rw [ht]; rfl) k
theorem co_getR {ci j o q : Nat} {n : Int} (hd : FldG μ pc pc' ci j) (ho : o < hN h) (hk : hK h o = (ci, n)) (hc : ci < 100) (ht : ctag ci j = 2) (hq : hR h o j = some q) (k : Co G l μ d mc ms cb sb pc' ls (.ref q :: st) h Q) : Co G l μ d mc ms cb sb pc ls (.ref o :: st) h Q :=
  co_getV hd ho hk hc (by rw [ht]; show va_rf ((hR h o j).map (adr G)) = _; rw [hq]; rfl) k
/-- a write into a field -/
theorem co_putV {ci j o : Nat} {n : Int} {v : Value} {h' : ph} {ty : FieldType} (hd : FldP μ pc pc' ci j ty) (ho : o < hN h) (hk : hK h o = (ci, n)) (hc : ci < 100) (hnar : narrow ty (tv G v) = tv G v) (hfit : fits ty (tv G v) = true) (hn : hN h' = hN h) (hk' : hK h' o = (ci, n)) (hv : fv G h' o (ctag ci j) j = tv G v) (hf : ∀ i : Nat, i ≠ j → fv G h' o (ctag ci i) i = fv G h o (ctag ci i) i) (hoo : ∀ q, q ≠ o → cellE G h' q = cellE G h q) (k : Co G l μ d mc ms cb sb pc' ls st h' Q) : Co G l μ d mc ms cb sb pc ls (v :: .ref o :: st) h Q := by
  obtain ⟨idx, r, hd, rfl, hr, hj, hw, hty, hfin⟩ := hd
  intro p e s m args below meth c H locs cells slots lsR C hH hS hL hcc hs
  have ha := hH.lt ho
  show W p l e (rmD d mc ms) s m args below meth c H locs cells slots _ (F0 m pc lsR (tv G v :: Value.ref (adr G o) :: st.map (tv G)))
  rw [ha]
  obtain ⟨t0, ht0, hty0⟩ := cl_ty ci r hr
  have hjc : j < cnum ci := by rw [cnum_of hr]; exact hj
  refine pu_put (D := gD G) (ci := ci) (v := tv G v) (ty := ty) (C := r.1) (T := r.2.1) (N := r.2.2) C.1 C.2.1 C.tb (cl_in ci r hr) t0 hty0 (cl_nm ci r hr) C.own C.K hH.2.2 (ws_D G h) hS o ((ws_get G h ho).trans (by rw [cell_obj G hk hc])) hr j hj (C.tb _ hw) (fun _ h9 => h9) ?_ hty hnar hfit (by rw [fsE_len]; exact hjc) hd (fun H1 locs1 hz hP1 hS1 => ?_)
  · rcases hfin with h1 | ⟨h1, h2, h3⟩
    · exact Or.inl h1
    · exact Or.inr ⟨h1, by rw [C.2.2.2.2.2.2.2.1]; exact h2, h3⟩
  · refine k p e s m args below meth c H1 locs1 cells slots lsR C (hH.put hn ho ?_ hoo hP1 hz) hS1 hL hcc hs
    rw [cell_obj G hk' hc, fsE_set G hjc hv hf]
theorem fv_sI (G : gG) (h : ph) (o t : Nat) (j i : Nat) (x : Int) (hij : i ≠ j ∨ t ≠ 0) : fv G (sI h o j x) o t i = fv G h o t i := by
  unfold fv
  by_cases ht : t = 0
  · have hij : i ≠ j := by rcases hij with q | q; exact q; exact absurd ht q
    rw [if_pos ht, if_pos ht, hI_sI_s, u1_n _ _ (by omega)]
  · rw [if_neg ht, if_neg ht]; rfl
theorem co_putI {ci j o : Nat} {n : Int} {x : Int} (hd : FldP μ pc pc' ci j .int) (ho : o < hN h) (hk : hK h o = (ci, n)) (hc : ci < 100) (ht : ctag ci j = 0) (k : Co G l μ d mc ms cb sb pc' ls st (sI h o j x) Q) : Co G l μ d mc ms cb sb pc ls (vI x :: .ref o :: st) h Q := by
  refine co_putV (h' := sI h o j x) hd ho hk hc rfl rfl rfl hk ?_ (fun i hi => fv_sI G h o _ j i x (Or.inl hi)) (fun q hq => cell_sA_n G h _ hq) k
  rw [ht]
  show vI (hI (sI h o j x) o j) = _
  rw [hI_sI_s, u1_s]
  rfl
theorem co_putZ {ci j o : Nat} {n : Int} {x : Int} (hd : FldP μ pc pc' ci j .boolean) (ho : o < hN h) (hk : hK h o = (ci, n)) (hc : ci < 100) (ht : ctag ci j = 0) (hx : x = 0 ∨ x = 1) (k : Co G l μ d mc ms cb sb pc' ls st (sI h o j x) Q) : Co G l μ d mc ms cb sb pc ls (vI x :: .ref o :: st) h Q := by
  refine co_putV (h' := sI h o j x) hd ho hk hc (by rcases hx with rfl | rfl <;> rfl) (by rcases hx with rfl | rfl <;> rfl) rfl hk ?_ (fun i hi => fv_sI G h o _ j i x (Or.inl hi)) (fun q hq => cell_sA_n G h _ hq) k
  rw [ht]
  show vI (hI (sI h o j x) o j) = _
  rw [hI_sI_s, u1_s]
  rfl
theorem fv_sL (G : gG) (h : ph) (o t : Nat) (j i : Nat) (x : Int) (hij : i ≠ j) : fv G (sL h o j x) o t i = fv G h o t i := by
  unfold fv
  have e : hJ (sL h o j x) o i = hJ h o i := by
    rw [hJ_sL_s, u1_n _ _ (by omega)]
  rw [e]; rfl
theorem co_putL {ci j o : Nat} {n : Int} {x : Int} (hd : FldP μ pc pc' ci j .long) (ho : o < hN h) (hk : hK h o = (ci, n)) (hc : ci < 100) (ht : ctag ci j = 1) (k : Co G l μ d mc ms cb sb pc' ls st (sL h o j x) Q) : Co G l μ d mc ms cb sb pc ls (vL x :: .ref o :: st) h Q := by
  refine co_putV (h' := sL h o j x) hd ho hk hc rfl rfl rfl hk ?_ (fun i hi => fv_sL G h o _ j i x hi) (fun q hq => cell_sLA_n G h _ hq) k
  rw [ht]
  show vL (hJ (sL h o j x) o j) = _
  have e : hJ (sL h o j x) o j = x := by
    rw [hJ_sL_s, u1_s]
  rw [e]; rfl
theorem fv_sR (G : gG) (h : ph) (o t : Nat) (j i : Nat) (x : Option Nat) (hij : i ≠ j) : fv G (sR h o j x) o t i = fv G h o t i := by
  unfold fv
  have e : hR (sR h o j x) o i = hR h o i := by
    rw [hR_sR_s, u1_n _ _ (by omega)]
  rw [e]; rfl
theorem co_putR {ci j o q : Nat} {n : Int} {ty : FieldType} (hd : FldP μ pc pc' ci j ty) (ho : o < hN h) (hk : hK h o = (ci, n)) (hc : ci < 100) (ht : ctag ci j = 2) (hty : ftag ty = 2 ∧ narrow ty (.ref (adr G q)) = .ref (adr G q) ∧ fits ty (.ref (adr G q)) = true) (k : Co G l μ d mc ms cb sb pc' ls st (sR h o j (some q)) Q) : Co G l μ d mc ms cb sb pc ls (.ref q :: .ref o :: st) h Q := by
  refine co_putV (h' := sR h o j (some q)) hd ho hk hc hty.2.1 hty.2.2 rfl hk ?_ (fun i hi => fv_sR G h o _ j i _ hi) (fun q hq => cell_sRA_n G h _ hq) k
  rw [ht]
  show va_rf ((hR (sR h o j (some q)) o j).map (adr G)) = _
  have e : hR (sR h o j (some q)) o j = some q := by
    rw [hR_sR_s, u1_s]
  rw [e]; rfl
-- arrays
theorem tyG_at (G : gG) : (tyG G)[0]? = some (gA G 0, .int) ∧ (tyG G)[1]? = some (gA G 1, .long) ∧ (tyG G)[2]? = some (gA G 2, .boolean) ∧ (tyG G)[3]? = some (gA G 3, .object "RockingGuard$Script") ∧ (tyG G)[4]? = some (gA G 4, .array .int) := ⟨rfl, rfl, rfl, rfl, rfl⟩
theorem arr_at (G : gG) {h : ph} {q t : Nat} {n : Int} (hq : q < hN h) (hk : hK h q = (100 + t, n)) : (wsG G h)[q]? = some (gB G + q, .inl (gA G t, n.toNat, arE G h q t)) := (ws_get G h hq).trans (by rw [cell_arr G hk])
theorem co_iaload {q : Nat} {n i : Int} (hd : Ins μ pc .iaload 1 pc') (hq : q < hN h) (hk : hK h q = (100, n)) (hn : n ≤ 2147483647) (hi : 0 ≤ i ∧ i < n) (k : Co G l μ d mc ms cb sb pc' ls (vI (hI h q i) :: st) h Q) : Co G l μ d mc ms cb sb pc ls (vI i :: .ref q :: st) h Q := by
  obtain ⟨hd, rfl⟩ := hd
  intro p e s m args below meth c H locs cells slots lsR C hH hS hL hcc hs
  show W p l e (rmD d mc ms) s m args below meth c H locs cells slots _ (F0 m pc lsR (Value.int (iI i) :: Value.ref (adr G q) :: st.map (tv G)))
  rw [hH.lt hq]
  obtain ⟨e1, e2⟩ := iI_idx hi hn
  refine va_iald (D := gD G) (f := fun j => iI (hI h q j)) (n := n.toNat) C.1 C.2.1 C.K hH.2.2 q 0 (arr_at G hq hk) rfl e1 hd ?_
  rw [e2]
  have e3 : ((i.toNat : Nat) : Int) = i := by omega
  show W p l e (rmD d mc ms) s m args below meth c H locs cells slots _ (F0 m (pc + 1) lsR (Value.int (iI (hI h q ((i.toNat : Nat) : Int))) :: st.map (tv G)))
  rw [e3]
  exact k p e s m args below meth c H locs cells slots lsR C hH hS hL hcc hs
theorem co_baload {q : Nat} {n i : Int} (hd : Ins μ pc .baload 1 pc') (hq : q < hN h) (hk : hK h q = (102, n)) (hn : n ≤ 2147483647) (hi : 0 ≤ i ∧ i < n) (k : Co G l μ d mc ms cb sb pc' ls (vI (hI h q i) :: st) h Q) : Co G l μ d mc ms cb sb pc ls (vI i :: .ref q :: st) h Q := by
  obtain ⟨hd, rfl⟩ := hd
  intro p e s m args below meth c H locs cells slots lsR C hH hS hL hcc hs
  show W p l e (rmD d mc ms) s m args below meth c H locs cells slots _ (F0 m pc lsR (Value.int (iI i) :: Value.ref (adr G q) :: st.map (tv G)))
  rw [hH.lt hq]
  obtain ⟨e1, e2⟩ := iI_idx hi hn
  refine va_zald (D := gD G) (f := fun j => iI (hI h q j)) (n := n.toNat) C.1 C.2.1 C.K hH.2.2 q 2 (arr_at G hq hk) rfl e1 hd ?_
  rw [e2]
  have e3 : ((i.toNat : Nat) : Int) = i := by omega
  show W p l e (rmD d mc ms) s m args below meth c H locs cells slots _ (F0 m (pc + 1) lsR (Value.int (iI (hI h q ((i.toNat : Nat) : Int))) :: st.map (tv G)))
  rw [e3]
  exact k p e s m args below meth c H locs cells slots lsR C hH hS hL hcc hs
theorem co_laload {q : Nat} {n i : Int} (hd : Ins μ pc .laload 1 pc') (hq : q < hN h) (hk : hK h q = (101, n)) (hn : n ≤ 2147483647) (hi : 0 ≤ i ∧ i < n) (k : Co G l μ d mc ms cb sb pc' ls (vL (hJ h q i) :: st) h Q) : Co G l μ d mc ms cb sb pc ls (vI i :: .ref q :: st) h Q := by
  obtain ⟨hd, rfl⟩ := hd
  intro p e s m args below meth c H locs cells slots lsR C hH hS hL hcc hs
  show W p l e (rmD d mc ms) s m args below meth c H locs cells slots _ (F0 m pc lsR (Value.int (iI i) :: Value.ref (adr G q) :: st.map (tv G)))
  rw [hH.lt hq]
  obtain ⟨e1, e2⟩ := iI_idx hi hn
  refine va_lald (D := gD G) (f := fun j => iL (hJ h q j)) (n := n.toNat) C.1 C.2.1 C.K hH.2.2 q 1 (arr_at G hq hk) rfl e1 hd ?_
  rw [e2]
  have e3 : ((i.toNat : Nat) : Int) = i := by omega
  show W p l e (rmD d mc ms) s m args below meth c H locs cells slots _ (F0 m (pc + 1) lsR (Value.long (iL (hJ h q ((i.toNat : Nat) : Int))) :: st.map (tv G)))
  rw [e3]
  exact k p e s m args below meth c H locs cells slots lsR C hH hS hL hcc hs
theorem co_aaload {q t r : Nat} {n i : Int} (hd : Ins μ pc .aaload 1 pc') (hq : q < hN h) (hk : hK h q = (103, n)) (hn : n ≤ 2147483647) (hi : 0 ≤ i ∧ i < n) (hr : hR h q i = some r) (k : Co G l μ d mc ms cb sb pc' ls (.ref r :: st) h Q) : Co G l μ d mc ms cb sb pc ls (vI i :: .ref q :: st) h Q := by
  obtain ⟨hd, rfl⟩ := hd
  intro p e s m args below meth c H locs cells slots lsR C hH hS hL hcc hs
  show W p l e (rmD d mc ms) s m args below meth c H locs cells slots _ (F0 m pc lsR (Value.int (iI i) :: Value.ref (adr G q) :: st.map (tv G)))
  rw [hH.lt hq]
  obtain ⟨e1, e2⟩ := iI_idx hi hn
  refine va_aldq (D := gD G) (f := fun j => (hR h q j).map (adr G)) (n := n.toNat) C.1 C.2.1 C.K hH.2.2 q 3 (arr_at G hq hk) rfl e1 hd ?_
  rw [e2]
  have e3 : ((i.toNat : Nat) : Int) = i := by omega
  show W p l e (rmD d mc ms) s m args below meth c H locs cells slots _ (F0 m (pc + 1) lsR (va_rf ((hR h q ((i.toNat : Nat) : Int)).map (adr G)) :: st.map (tv G)))
  rw [e3, hr]
  exact k p e s m args below meth c H locs cells slots lsR C hH hS hL hcc hs
theorem upd_E {f : Int → Int} {i x : Int} (hi : 0 ≤ i) : (fun j : Nat => iI (u1 f i x j)) = upd (fun j : Nat => iI (f j)) i.toNat (iI x) := by
  funext j
  by_cases e : j = i.toNat
  · subst e
    have : ((i.toNat : Nat) : Int) = i := by omega
    simp [upd, u1, this]
  · have : ¬ (j : Int) = i := by omega
    simp [upd, u1, e, this]
theorem co_iastore {q : Nat} {n i x : Int} (hd : Ins μ pc .iastore 1 pc') (hq : q < hN h) (hk : hK h q = (100, n)) (hn : n ≤ 2147483647) (hi : 0 ≤ i ∧ i < n) (k : Co G l μ d mc ms cb sb pc' ls st (sI h q i x) Q) : Co G l μ d mc ms cb sb pc ls (vI x :: vI i :: .ref q :: st) h Q := by
  obtain ⟨hd, rfl⟩ := hd
  intro p e s m args below meth c H locs cells slots lsR C hH hS hL hcc hs
  show W p l e (rmD d mc ms) s m args below meth c H locs cells slots _ (F0 m pc lsR (Value.int (iI x) :: Value.int (iI i) :: Value.ref (adr G q) :: st.map (tv G)))
  rw [hH.lt hq]
  obtain ⟨e1, e2⟩ := iI_idx hi hn
  refine pu_iast (D := gD G) (f := fun j => iI (hI h q j)) (n := n.toNat) C.1 C.2.1 C.K hH.2.2 (ws_D G h) hS q 0 (arr_at G hq hk) rfl e1 hd (fun H1 locs1 hz hP1 hS1 => ?_)
  refine k p e s m args below meth c H1 locs1 cells slots lsR C (hH.put (h' := sI h q i x) rfl hq ?_ (fun j hj => cell_sA_n G h _ hj) hP1 hz) hS1 hL hcc hs
  rw [cell_arr G (h := sI h q i x) (t := 0) hk, e2, ← upd_E hi.1]
  show (Sum.inl (gA G 0, n.toNat, Sum.inl (fun j : Nat => iI (hI (sI h q i x) q j))) : va_E) = _
  rw [hI_sI_s]
theorem co_bastore {q : Nat} {n i x : Int} (hd : Ins μ pc .bastore 1 pc') (hq : q < hN h) (hk : hK h q = (102, n)) (hn : n ≤ 2147483647) (hi : 0 ≤ i ∧ i < n) (hx : x = 0 ∨ x = 1) (k : Co G l μ d mc ms cb sb pc' ls st (sI h q i x) Q) : Co G l μ d mc ms cb sb pc ls (vI x :: vI i :: .ref q :: st) h Q := by
  obtain ⟨hd, rfl⟩ := hd
  intro p e s m args below meth c H locs cells slots lsR C hH hS hL hcc hs
  show W p l e (rmD d mc ms) s m args below meth c H locs cells slots _ (F0 m pc lsR (Value.int (iI x) :: Value.int (iI i) :: Value.ref (adr G q) :: st.map (tv G)))
  rw [hH.lt hq]
  obtain ⟨e1, e2⟩ := iI_idx hi hn
  refine pu_zast (D := gD G) (f := fun j => iI (hI h q j)) (n := n.toNat) C.1 C.2.1 C.K hH.2.2 (ws_D G h) hS q 2 (arr_at G hq hk) rfl e1 hd (fun H1 locs1 hz hP1 hS1 => ?_)
  have e4 : vp_nar .boolean (iI x) = iI x := by rcases hx with rfl | rfl <;> rfl
  rw [e4] at hP1
  refine k p e s m args below meth c H1 locs1 cells slots lsR C (hH.put (h' := sI h q i x) rfl hq ?_ (fun j hj => cell_sA_n G h _ hj) hP1 hz) hS1 hL hcc hs
  rw [cell_arr G (h := sI h q i x) (t := 2) hk, e2, ← upd_E hi.1]
  show (Sum.inl (gA G 2, n.toNat, Sum.inl (fun j : Nat => iI (hI (sI h q i x) q j))) : va_E) = _
  rw [hI_sI_s]
theorem updL_E {f : Int → Int} {i x : Int} (hi : 0 ≤ i) : (fun j : Nat => iL (u1 f i x j)) = vp_updL (fun j : Nat => iL (f j)) i.toNat (iL x) := by
  funext j
  by_cases e : j = i.toNat
  · subst e
    have : ((i.toNat : Nat) : Int) = i := by omega
    simp [vp_updL, u1, this]
  · have : ¬ (j : Int) = i := by omega
    simp [vp_updL, u1, e, this]
theorem co_lastore {q : Nat} {n i x : Int} (hd : Ins μ pc .lastore 1 pc') (hq : q < hN h) (hk : hK h q = (101, n)) (hn : n ≤ 2147483647) (hi : 0 ≤ i ∧ i < n) (k : Co G l μ d mc ms cb sb pc' ls st (sL h q i x) Q) : Co G l μ d mc ms cb sb pc ls (vL x :: vI i :: .ref q :: st) h Q := by
  obtain ⟨hd, rfl⟩ := hd
  intro p e s m args below meth c H locs cells slots lsR C hH hS hL hcc hs
  show W p l e (rmD d mc ms) s m args below meth c H locs cells slots _ (F0 m pc lsR (Value.long (iL x) :: Value.int (iI i) :: Value.ref (adr G q) :: st.map (tv G)))
  rw [hH.lt hq]
  obtain ⟨e1, e2⟩ := iI_idx hi hn
  refine pu_last (D := gD G) (f := fun j => iL (hJ h q j)) (n := n.toNat) C.1 C.2.1 C.K hH.2.2 (ws_D G h) hS q 1 (arr_at G hq hk) rfl e1 hd (fun H1 locs1 hz hP1 hS1 => ?_)
  refine k p e s m args below meth c H1 locs1 cells slots lsR C (hH.put (h' := sL h q i x) rfl hq ?_ (fun j hj => cell_sLA_n G h _ hj) hP1 hz) hS1 hL hcc hs
  rw [cell_arr G (h := sL h q i x) (t := 1) hk, e2, ← updL_E hi.1]
  show (Sum.inl (gA G 1, n.toNat, Sum.inr (Sum.inl (fun j : Nat => iL (hJ (sL h q i x) q j)))) : va_E) = _
  rw [hJ_sL_s]
theorem co_arraylength {q t : Nat} {n : Int} (hd : Ins μ pc .arraylength 1 pc') (hq : q < hN h) (hk : hK h q = (100 + t, n)) (ht : t < 5) (hn : 0 ≤ n ∧ n ≤ 2147483647) (k : Co G l μ d mc ms cb sb pc' ls (vI n :: st) h Q) : Co G l μ d mc ms cb sb pc ls (.ref q :: st) h Q := by
  obtain ⟨hd, rfl⟩ := hd
  intro p e s m args below meth c H locs cells slots lsR C hH hS hL hcc hs
  show W p l e (rmD d mc ms) s m args below meth c H locs cells slots _ (F0 m pc lsR (Value.ref (adr G q) :: st.map (tv G)))
  rw [hH.lt hq]
  have hv : Int32.ofNat n.toNat = iI n := by
    have e : n = ((n.toNat : Nat) : Int) := by omega
    rw [iI, e]; rfl
  obtain ⟨ty, hty⟩ : ∃ ty, (tyG G)[t]? = some (gA G t, ty) := by
    rcases (show t = 0 ∨ t = 1 ∨ t = 2 ∨ t = 3 ∨ t = 4 by omega) with rfl | rfl | rfl | rfl | rfl <;> exact ⟨_, rfl⟩
  exact va_alen (D := gD G) C.1 C.2.1 C.K hH.2.2 q t (arr_at G hq hk) hty hv hd (k p e s m args below meth c H locs cells slots lsR C hH hS hL hcc hs)
-- answers
theorem co_ireturn {x : Int} (hd : Ins μ pc .ireturn 1 pc') (hr : mR μ = some .int) (hq : Q (some (vI x)) h) : Co G l μ d mc ms cb sb pc ls [vI x] h Q := by
  obtain ⟨hd, rfl⟩ := hd
  intro p e s m args below meth c H locs cells slots lsR C hH hS hL hcc hs
  refine W.widen (k := mc) (n := ms) (by omega) (by omega) ?_
  exact W.iret (v := iI x) C.1 C.2.1 (C.2.2.1.trans hr) (fun t ht hW => end_of (r := some (vI x)) C hH hS hq ht hW) hS.2.2 hd (hlocks := C.2.2.2.2.2.2.1)
theorem co_zreturn {x : Int} (hd : Ins μ pc .ireturn 1 pc') (hr : mR μ = some .boolean) (hx : x = 0 ∨ x = 1) (hq : Q (some (vI x)) h) : Co G l μ d mc ms cb sb pc ls [vI x] h Q := by
  obtain ⟨hd, rfl⟩ := hd
  intro p e s m args below meth c H locs cells slots lsR C hH hS hL hcc hs
  refine W.widen (k := mc) (n := ms) (by omega) (by omega) ?_
  exact W.zret (v := iI x) C.1 C.2.1 (C.2.2.1.trans hr) (by rcases hx with rfl | rfl <;> rfl) (fun t ht hW => end_of (r := some (vI x)) C hH hS hq ht hW) hS.2.2 hd (hlocks := C.2.2.2.2.2.2.1)
theorem co_breturn {x : Int} {ty : FieldType} (hd : Ins μ pc .ireturn 1 pc') (hr : mR μ = some ty) (hx : narrow ty (vI x) = vI x) (hq : Q (some (vI x)) h) : Co G l μ d mc ms cb sb pc ls [vI x] h Q := by
  obtain ⟨hd, rfl⟩ := hd
  intro p e s m args below meth c H locs cells slots lsR C hH hS hL hcc hs
  refine W.widen (k := mc) (n := ms) (by omega) (by omega) ?_
  exact W.zret (v := iI x) C.1 C.2.1 (C.2.2.1.trans hr) hx (fun t ht hW => end_of (r := some (vI x)) C hH hS hq ht hW) hS.2.2 hd (hlocks := C.2.2.2.2.2.2.1)
theorem co_lreturn {x : Int} (hd : Ins μ pc .lreturn 1 pc') (hr : mR μ = some .long) (hq : Q (some (vL x)) h) : Co G l μ d mc ms cb sb pc ls [vL x] h Q := by
  obtain ⟨hd, rfl⟩ := hd
  intro p e s m args below meth c H locs cells slots lsR C hH hS hL hcc hs
  refine W.widen (k := mc) (n := ms) (by omega) (by omega) ?_
  exact W.lret (v := iL x) C.1 C.2.1 (C.2.2.1.trans hr) (fun t ht hW => end_of (r := some (vL x)) C hH hS hq ht hW) hS.2.2 hd (hlocks := C.2.2.2.2.2.2.1)
theorem co_return (hd : Ins μ pc .return_ 1 pc') (hr : mR μ = none) (hq : Q none h) : Co G l μ d mc ms cb sb pc ls [] h Q := by
  obtain ⟨hd, rfl⟩ := hd
  intro p e s m args below meth c H locs cells slots lsR C hH hS hL hcc hs
  refine W.widen (k := mc) (n := ms) (by omega) (by omega) ?_
  exact W.vret C.1 C.2.1 (C.2.2.1.trans hr) (fun t ht hW => end_of (r := none) C hH hS hq ht hW) hS.2.2 hd (hlocks := C.2.2.2.2.2.2.1)
theorem co_areturn {v : Value} {n : String} (hd : Ins μ pc .areturn 1 pc') (hr : mR μ = some (.object n)) (hv : v = .null ∨ ∃ a, v = .ref a) (hq : Q (some v) h) : Co G l μ d mc ms cb sb pc ls [v] h Q := by
  obtain ⟨hd, rfl⟩ := hd
  intro p e s m args below meth c H locs cells slots lsR C hH hS hL hcc hs
  refine W.widen (k := mc) (n := ms) (by omega) (by omega) ?_
  exact W.aret (v := tv G v) C.1 C.2.1 (C.2.2.1.trans hr) (Or.inl ⟨_, rfl⟩) (by rcases hv with rfl | ⟨a, rfl⟩; exact Or.inl rfl; exact Or.inr ⟨_, rfl⟩) (fun t ht hW => end_of (r := some v) C hH hS hq ht hW) hS.2.2 hd (hlocks := C.2.2.2.2.2.2.1)
end COH
