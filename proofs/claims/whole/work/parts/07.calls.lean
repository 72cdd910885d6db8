/-- an object of class ci; an array of kind t and length n -/
def Ob (h : ph) (o ci : Nat) : Prop := o < hN h ∧ (hK h o).1 = ci
def Ar (h : ph) (q t : Nat) (n : Int) : Prop := q < hN h ∧ hK h q = (100 + t, n)
theorem Ob.kk {h : ph} {o ci : Nat} (H : Ob h o ci) : hK h o = (ci, (hK h o).2) := by rw [← H.2]
def FgI (μ : MU) (pc pc' ci j : Nat) : Prop := FldG μ pc pc' ci j ∧ ci < 100 ∧ ctag ci j = 0
def FgL (μ : MU) (pc pc' ci j : Nat) : Prop := FldG μ pc pc' ci j ∧ ci < 100 ∧ ctag ci j = 1
def FgR (μ : MU) (pc pc' ci j : Nat) : Prop := FldG μ pc pc' ci j ∧ ci < 100 ∧ ctag ci j = 2
def FpI (μ : MU) (pc pc' ci j : Nat) : Prop := FldP μ pc pc' ci j .int ∧ ci < 100 ∧ ctag ci j = 0
def FpZ (μ : MU) (pc pc' ci j : Nat) : Prop := FldP μ pc pc' ci j .boolean ∧ ci < 100 ∧ ctag ci j = 0
def FpL (μ : MU) (pc pc' ci j : Nat) : Prop := FldP μ pc pc' ci j .long ∧ ci < 100 ∧ ctag ci j = 1
def FpR (μ : MU) (pc pc' ci j : Nat) : Prop := ∃ ty, FldP μ pc pc' ci j ty ∧ ci < 100 ∧ ctag ci j = 2 ∧ ((∃ c, ty = .object c) ∨ ∃ t, ty = .array t)
def MeI (ν : MU) : Prop := Cond.code (mY ν) (mB ν) (mL ν) (mR ν) ∈ tb ∧ Cond.initialized (mO ν) ∈ tb ∧ (mO ν ≠ "java/lang/invoke/MethodHandle" ∧ mO ν ≠ "java/lang/invoke/VarHandle") ∧ (parseMethodDescriptor (mY ν).desc).map (fun d => d.parameters.length) = some (mN ν) ∧ mL ν ≤ 81
def MeV (ν : MU) : Prop := MeI ν ∧ Cond.instanceMethod (mY ν) ∈ tb ∧ Cond.selects (mO ν) (mY ν) (mY ν) ∈ tb ∧ mC ν < 100 ∧ ∃ r, cl0[mC ν]? = some r ∧ r.1 = mO ν
def MeS (ν : MU) : Prop := MeI ν ∧ Cond.static (mY ν) ∈ tb
def MeC (ν : MU) : Prop := MeI ν ∧ Cond.instanceMethod (mY ν) ∈ tb ∧ (mY ν).name = "<init>" ∧ mR ν = none
def CalV (μ : MU) (pc pc' : Nat) (ν : MU) : Prop := ∃ idx : Nat, decode (mB μ) pc = .ok (.invokevirtual idx, 3) ∧ pc' = pc + 3 ∧ Cond.methodLink (mO μ) idx (mY ν) ∈ tb ∧ MeV ν
def CalS (μ : MU) (pc pc' : Nat) (ν : MU) : Prop := ∃ idx : Nat, decode (mB μ) pc = .ok (.invokestatic idx, 3) ∧ pc' = pc + 3 ∧ (Cond.methodLink (mO μ) idx (mY ν) ∈ tb ∨ ∃ host, (mO μ, idx, mY ν, host) ∈ nestM) ∧ MeS ν
def CalC (μ : MU) (pc pc' : Nat) (ν : MU) : Prop := ∃ idx : Nat, decode (mB μ) pc = .ok (.invokespecial idx, 3) ∧ pc' = pc + 3 ∧ (Cond.methodLink (mO μ) idx (mY ν) ∈ tb ∨ ∃ host, (mO μ, idx, mY ν, host) ∈ nestM) ∧ MeC ν
theorem tb_good {w : Cond} (h : w ∈ tb) : goodWord w = true := (List.mem_filter.mp h).2
theorem good_ws {ν : MU} (h : MeI ν) : GoodIn tb (wsM ν) := by
  intro w hw
  have hm : w ∈ tb := by
    rcases List.mem_cons.mp hw with e | e
    · rw [e]; exact h.1
    · exact e
  exact ⟨hm, good_of_word (tb_good hm)⟩
theorem pre_blind (G : gG) (h : ph) (av : List Value) : FrameBlind (va_Pc av (Pre G h)) := by
  rintro a U g mk ⟨h1, h2, h3, h4⟩
  exact ⟨h1, h2, Wv.same (s := U) rfl h3, h4.moved (u := U) (Vm.Alike.refl _)⟩
theorem pre_at {G : gG} {μ : MU} {p : Program} {s : State} {m : MethodId} {args : Array Value} {meth : Method} {c : Code} {H : Heap} {locs : List Loc} {h : ph} (C : Ctx G μ p s m args meth c) (hH : HR G h H) (hS : va_S (Ab G) s.heap H locs) {U : State} (hU : U.heap = H) (hW : s.WarmedH U.vm) : Pre G h U :=
  ⟨by rw [hU]; exact hH, C.wd.1.warm hW, by
    have h1 : SX G s U.heap := C.wd.2.kept (fun a h1 h2 => by rw [hU]; exact hS.2.1 a h1 h2)
    exact h1.moved hW.alike⟩
section CALL
variable {G : gG} {l : Launch} {μ ν : MU} {d d' mc ms cb sb mc' ms' : Nat} {pc pc' : Nat} {ls : List (Option Value)} {st rest : List Value} {h h' : ph} {Q Q1 : Option Value → ph → Prop}
theorem co_run {as : List Value} (hM : ∀ (p : Program) (e : Env) (s : State) (m : MethodId) (args : Array Value) (below : List Frame) (meth : Method) (c : Code) (H : Heap) (locs : List Loc) (cells slots : Nat) (lsR : Array Slot), Ctx G μ p s m args meth c → HR G h H → va_S (Ab G) s.heap H locs → LR G ls lsR (mL μ) → cells + (cb + mc') ≤ mc → slots + (sb + ms') ≤ ms →
      va_Run p l e (rmD d mc ms) s m args below meth c H locs cells slots mc' ms' (F0 m pc lsR (st.map (tv G))) (rest.map (tv G)) (Qx G Q1 as.toArray) (Ab G))
    (k : ∀ (r : Option Value) (h1 : ph), Q1 r h1 → Co G l μ d mc ms cb sb (pc + 3) ls (r.toList ++ rest) h1 Q) : Co G l μ d mc ms (cb + mc') (sb + ms') pc ls st h Q := by
  intro p e s m args below meth c H locs cells slots lsR C hH hS hL hcc hs
  intro T hT X
  obtain ⟨v, st₀, t, T', L, h0, X', hLf, e1, e2, ⟨r, h1, hv, hq, hH1, hWd, hF⟩, stp⟩ := hM p e s m args below meth c H locs cells slots lsR C hH hS hL hcc hs T hT X
  cases hv
  obtain ⟨hz, hk⟩ := hF
  rw [h0] at hz hk
  have hS1 : va_S (Ab G) s.heap T'.heap (locs ++ L) := by
    refine ⟨Nat.le_trans hS.1 (by rw [e1]; exact hz), fun q h1 h2 => ?_, fun q hq => ?_⟩
    · rw [e1, hk q (Nat.lt_of_lt_of_le h1 hS.1) h2]
      exact hS.2.1 q h1 h2
    · rcases List.mem_append.mp hq with h | h
      · exact hS.2.2 q h
      · exact hLf q h
  obtain ⟨t2, a1, b1⟩ := k r h1 hq p e s m args below meth c T'.heap (locs ++ L) (cells + mc') (slots + ms') lsR C (by rw [e1]; exact hH1) hS1 hL (by omega) (by omega) T' rfl X'
  refine ⟨t2, stp t2 ?_, b1⟩
  have e3 : (r.map (tv G)).toList ++ rest.map (tv G) = (r.toList ++ rest).map (tv G) := by cases r <;> simp
  rw [e3]
  exact a1
theorem co_callV {as : List Value} {o : Nat} (hc : CalV μ pc pc' ν) (hM : Ev G l ν d' mc' ms' (.ref o :: as) h Q1) (hd : d' < d) (ho : Ob h o (mC ν)) (hst : st = as.reverse ++ .ref o :: rest) (hn : as.length = mN ν) (hcat : (rest.map fun v => v.category).sum ≤ 8) (k : ∀ (r : Option Value) (h1 : ph), Q1 r h1 → Co G l μ d mc ms cb sb pc' ls (r.toList ++ rest) h1 Q) : Co G l μ d mc ms (cb + mc') (sb + ms') pc ls st h Q := by
  obtain ⟨idx, hdc, rfl, hlk, hI, hin, hse, hci, r, hr, hr1⟩ := hc
  refine co_run (rest := rest) (as := (Value.ref o :: as).map (tv G)) ?_ k
  intro p e s m args below meth c H locs cells slots lsR C hH hS hL hcc hs
  have hcat2 : ((rest.map (tv G)).map fun v => v.category).sum ≤ 8 := by
    have e : (rest.map (tv G)).map (fun v => v.category) = rest.map (fun v => v.category) := by simp [tv_cat]
    rw [e]; exact hcat
  have hob := cell_obj G ho.kk hci
  refine va_runV (As := as.map (tv G)) (rest := rest.map (tv G)) (b := adr G o) (C := mO ν) (n := mN ν) (nL := mL μ) ⟨C.1, C.2.1, C.2.2.2.1, C.own, C.tb⟩ hM ⟨callB_of (mN ν) C.tb (good_ws hI) rfl rfl rfl (C.tb _ hI.2.1) (C.tb _ hlk) ⟨hI.2.2.1.1, hI.2.2.1.2, hI.2.2.2.1⟩ ⟨?_, ?_⟩, C.tb _ hin, C.tb _ hse⟩ ⟨pre_blind G h _, ?_, fun U hU hW => ⟨rfl, pre_at C hH hS hU hW⟩⟩ rfl ?_ hL.1 ?_ (lv_room hcat2) hdc ⟨?_, ?_⟩
  · show d' + 1 ≤ d; omega
  · show 8 + (mL ν + 11) + 100 * d' ≤ 100 * d
    have := hI.2.2.2.2
    omega
  · rw [hH.lt ho.1, ← hr1]
    exact va_recv C.K hH.2.2 hr ((ws_get G h ho.1).trans (by rw [hob]))
  · simpa using hn
  · show st.map (tv G) = _
    rw [hst]
    simp [tv]
  · show cells + mc' ≤ mc; omega
  · show slots + ms' ≤ ms; omega
theorem co_callS {as : List Value} (hc : CalS μ pc pc' ν) (hM : Ev G l ν d' mc' ms' as h Q1) (hd : d' < d) (hst : st = as.reverse ++ rest) (hn : as.length = mN ν) (hcat : (rest.map fun v => v.category).sum ≤ 8) (k : ∀ (r : Option Value) (h1 : ph), Q1 r h1 → Co G l μ d mc ms cb sb pc' ls (r.toList ++ rest) h1 Q) : Co G l μ d mc ms (cb + mc') (sb + ms') pc ls st h Q := by
  obtain ⟨idx, hdc, rfl, hlk, hI, hst9⟩ := hc
  refine co_run (rest := rest) (as := as.map (tv G)) ?_ k
  intro p e s m args below meth c H locs cells slots lsR C hH hS hL hcc hs
  have hcat2 : ((rest.map (tv G)).map fun v => v.category).sum ≤ 8 := by
    have e : (rest.map (tv G)).map (fun v => v.category) = rest.map (fun v => v.category) := by simp [tv_cat]
    rw [e]; exact hcat
  have hr1 : (rmD d' mc' ms').frames + 1 ≤ (rmD d mc ms).frames := by show d' + 1 ≤ d; omega
  have hr2 : 8 + (mL ν + 11) + (rmD d' mc' ms').locals ≤ (rmD d mc ms).locals := by
    show 8 + (mL ν + 11) + 100 * d' ≤ 100 * d
    have := hI.2.2.2.2
    omega
  have hstk : st.map (tv G) = (as.map (tv G)).reverse ++ rest.map (tv G) := by rw [hst]; simp
  have hf : cells + mc' ≤ (rmD d mc ms).cells ∧ slots + ms' ≤ (rmD d mc ms).slots := ⟨by show cells + mc' ≤ mc; omega, by show slots + ms' ≤ ms; omega⟩
  rcases hlk with hlk | ⟨host, hlk⟩
  · exact va_runS (As := as.map (tv G)) (rest := rest.map (tv G)) (n := mN ν) (nL := mL μ) ⟨C.1, C.2.1, C.2.2.2.1, C.own, C.tb⟩ hM ⟨callB_of (mN ν) C.tb (good_ws hI) rfl rfl rfl (C.tb _ hI.2.1) (C.tb _ hlk) ⟨hI.2.2.1.1, hI.2.2.1.2, hI.2.2.2.1⟩ ⟨hr1, hr2⟩, C.tb _ hst9⟩ ⟨pre_blind G h _, fun U hU hW => ⟨rfl, pre_at C hH hS hU hW⟩⟩ rfl (by simpa using hn) hL.1 hstk (lv_room hcat2) hdc hf
  · exact va_runSN (As := as.map (tv G)) (rest := rest.map (tv G)) (n := mN ν) (nL := mL μ) (host := host) ⟨C.1, C.2.1, C.2.2.2.1, C.own, C.tb⟩ hM ⟨va_cnB (mN ν) C.tb (good_ws hI) rfl rfl rfl (C.wd.1.2.1 _ hlk) (C.tb _ hI.2.1) ⟨hI.2.2.1.1, hI.2.2.1.2, hI.2.2.2.1⟩ ⟨hr1, hr2⟩, C.tb _ hst9, trivial⟩ ⟨pre_blind G h _, fun U hU hW => ⟨rfl, pre_at C hH hS hU hW⟩⟩ rfl (by simpa using hn) hL.1 hstk (lv_room hcat2) hdc hf
theorem co_callC {as : List Value} {o : Nat} (hc : CalC μ pc pc' ν) (hM : Ev G l ν d' mc' ms' (.ref o :: as) h Q1) (hd : d' < d) (hst : st = as.reverse ++ .ref o :: rest) (hn : as.length = mN ν) (hcat : (rest.map fun v => v.category).sum ≤ 8) (k : ∀ (r : Option Value) (h1 : ph), Q1 r h1 → Co G l μ d mc ms cb sb pc' ls (r.toList ++ rest) h1 Q) : Co G l μ d mc ms (cb + mc') (sb + ms') pc ls st h Q := by
  obtain ⟨idx, hdc, rfl, hlk, hI, hin, hnm, hret⟩ := hc
  refine co_run (rest := rest) (as := (Value.ref o :: as).map (tv G)) ?_ k
  intro p e s m args below meth c H locs cells slots lsR C hH hS hL hcc hs
  have hcat2 : ((rest.map (tv G)).map fun v => v.category).sum ≤ 8 := by
    have e : (rest.map (tv G)).map (fun v => v.category) = rest.map (fun v => v.category) := by simp [tv_cat]
    rw [e]; exact hcat
  have hr1 : (rmD d' mc' ms').frames + 1 ≤ (rmD d mc ms).frames := by show d' + 1 ≤ d; omega
  have hr2 : 8 + (mL ν + 11) + (rmD d' mc' ms').locals ≤ (rmD d mc ms).locals := by
    show 8 + (mL ν + 11) + 100 * d' ≤ 100 * d
    have := hI.2.2.2.2
    omega
  have hstk : st.map (tv G) = (as.map (tv G)).reverse ++ Value.ref (adr G o) :: rest.map (tv G) := by rw [hst]; simp [tv]
  have hf : cells + mc' ≤ (rmD d mc ms).cells ∧ slots + ms' ≤ (rmD d mc ms).slots := ⟨by show cells + mc' ≤ mc; omega, by show slots + ms' ≤ ms; omega⟩
  have hcd : Cond.code (mY ν) (mB ν) (mL ν) none :: tb = wsM ν := by unfold wsM; rw [hret]
  rcases hlk with hlk | ⟨host, hlk⟩
  · exact va_runI (As := as.map (tv G)) (rest := rest.map (tv G)) (n := mN ν) (nL := mL μ) (b := adr G o) ⟨C.1, C.2.1, C.2.2.2.1, C.own, C.tb⟩ hM ⟨callB_of (mN ν) C.tb (good_ws hI) hcd.symm rfl rfl (C.tb _ hI.2.1) (C.tb _ hlk) ⟨hI.2.2.1.1, hI.2.2.1.2, hI.2.2.2.1⟩ ⟨hr1, hr2⟩, hnm, C.tb _ hin⟩ ⟨pre_blind G h _, fun U hU hW => ⟨rfl, pre_at C hH hS hU hW⟩⟩ rfl (by simpa using hn) hL.1 hstk (lv_room hcat2) hdc hf
  · exact va_runIN (As := as.map (tv G)) (rest := rest.map (tv G)) (n := mN ν) (nL := mL μ) (host := host) (b := adr G o) ⟨C.1, C.2.1, C.2.2.2.1, C.own, C.tb⟩ hM ⟨va_cnB (mN ν) C.tb (good_ws hI) hcd.symm rfl rfl (C.wd.1.2.1 _ hlk) (C.tb _ hI.2.1) ⟨hI.2.2.1.1, hI.2.2.1.2, hI.2.2.2.1⟩ ⟨hr1, hr2⟩, hnm, C.tb _ hin⟩ ⟨pre_blind G h _, fun U hU hW => ⟨rfl, pre_at C hH hS hU hW⟩⟩ rfl (by simpa using hn) hL.1 hstk (lv_room hcat2) hdc hf
end CALL
