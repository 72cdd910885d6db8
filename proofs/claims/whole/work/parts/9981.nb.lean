-- ===== rows of rows, what is made (2) =====
-- ===== rows of rows =====
def rwR (comp : ClassId) (M : Nat) : Cell := { cls := comp, slots := Array.replicate M (.int 0), vm := .none }
/-- the row of rows at h0, when i rows are made -/
def rwO (cA : ClassId) (N h0 : Nat) : Nat → Cell
  | 0 => { cls := cA, slots := Array.replicate N .null, vm := .none }
  | i + 1 => (rwO cA N h0 i).setSlot i (.ref (h0 + 1 + i))
/-- the state then -/
def rwT (t : State) (cA comp : ClassId) (N M : Nat) : Nat → State
  | 0 => t.pushCell (rwO cA N t.heap.size 0)
  | i + 1 => ((rwT t cA comp N M i).pushCell (rwR comp M)).setCell t.heap.size (rwO cA N t.heap.size (i + 1))
theorem rwO_f (cA : ClassId) (N h0 : Nat) : ∀ i : Nat, (rwO cA N h0 i).cls = cA ∧ (rwO cA N h0 i).vm = .none ∧ (rwO cA N h0 i).slots.size = N ∧ ∀ j : Nat, j < N → (rwO cA N h0 i).slots[j]? = some (if j < i then .ref (h0 + 1 + j) else .null) := by
  intro i
  induction i with
  | zero => exact ⟨rfl, rfl, by simp [rwO], fun j hj => by simp [rwO, hj]⟩
  | succ i ih =>
    obtain ⟨a, b, c, d⟩ := ih
    refine ⟨by simp [rwO, Cell.setSlot, a], by simp [rwO, Cell.setSlot, b], by simp [rwO, Cell.setSlot, c], fun j hj => ?_⟩
    have hd := d j hj
    simp only [rwO, Cell.setSlot, Array.getElem?_setIfInBounds]
    by_cases e : i = j
    · subst e
      rw [if_pos rfl, if_pos (by omega), if_pos (by omega)]
    · rw [if_neg e, hd]
      by_cases q : j < i
      · rw [if_pos q, if_pos (by omega)]
      · rw [if_neg q, if_neg (by omega)]
theorem rwT_f (t : State) (cA comp : ClassId) (N M : Nat) : ∀ i : Nat, (rwT t cA comp N M i).heap.size = t.heap.size + 1 + i ∧ (rwT t cA comp N M i).heap[t.heap.size]? = some (rwO cA N t.heap.size i) ∧ (rwT t cA comp N M i).vm = t.vm ∧ (rwT t cA comp N M i).slotsUsed = t.slotsUsed + N + i * M ∧ (∀ a : Nat, a < t.heap.size → (rwT t cA comp N M i).heap[a]? = t.heap[a]?) ∧ ∀ j : Nat, j < i → (rwT t cA comp N M i).heap[t.heap.size + 1 + j]? = some (rwR comp M) := by
  intro i
  induction i with
  | zero => exact ⟨by simp [rwT], by simp [rwT], rfl, by simp [rwT, rwO], fun a ha => State.heap_pushCell_of_lt _ _ ha, fun j hj => absurd hj (Nat.not_lt_zero j)⟩
  | succ i ih =>
    obtain ⟨a, b, c, d, e, f⟩ := ih
    have h0 : t.heap.size < (rwT t cA comp N M i).heap.size := by omega
    have hb : ((rwT t cA comp N M i).pushCell (rwR comp M)).heap[t.heap.size]? = some (rwO cA N t.heap.size i) := by rw [State.heap_pushCell_of_lt (h := h0)]; exact b
    refine ⟨?_, State.heap_setCell_self hb, by simp [rwT, c], ?_, fun q hq => ?_, fun j hj => ?_⟩
    · simp [rwT, State.setCell, a]; omega
    · simp [rwT, d, rwR, Nat.succ_mul]; omega
    · show (((rwT t cA comp N M i).pushCell (rwR comp M)).setCell t.heap.size _).heap[q]? = _
      rw [State.heap_setCell_other (Nat.ne_of_gt hq), State.heap_pushCell_of_lt (h := show q < (rwT t cA comp N M i).heap.size by omega)]
      exact e q hq
    · show (((rwT t cA comp N M i).pushCell (rwR comp M)).setCell t.heap.size _).heap[t.heap.size + 1 + j]? = _
      rw [State.heap_setCell_other (show t.heap.size ≠ t.heap.size + 1 + j by omega)]
      by_cases q : j = i
      · subst q
        rw [← a]
        exact State.heap_pushCell_size _ _
      · rw [State.heap_pushCell_of_lt (h := show t.heap.size + 1 + j < (rwT t cA comp N M i).heap.size by omega)]
        exact f j (by omega)
theorem rwT_top (t : State) (f : JFrame) (cA comp : ClassId) (N M : Nat) : ∀ i : Nat, rwT (t.setTop f) cA comp N M i = (rwT t cA comp N M i).setTop f := by
  intro i
  induction i with
  | zero => rfl
  | succ i ih => simp only [rwT, ih, State.heap_setTop, State.pushCell_setTop, State.setCell_setTop]
section MNW
variable {E : CtlPost} {e : Env} {d : Bool} {acts : List Action} {s : State}
theorem wp_row {c comp : ClassId} {k : Class} {ty : FieldType} {len : Nat} {v : Value} (hk : s.vm.classes[c]? = some k) (hkind : k.kind = .array comp ty) (hl : ¬ len > e.platform.arrayLengthLimit) (hh : ¬ len * componentBytes ty > e.platform.maxHeapBytes) (hf : fits ty v = true) (hd : v.isDefault = true) (h1 : s.heap.size < e.platform.maxCells) (h2 : s.slotsUsed + len ≤ e.platform.maxSlots) {Q : Addr → Jvm.Pre} (hq : Q s.heap.size d acts (s.pushCell { cls := c, slots := Array.replicate len v, vm := .none })) : (Jvm.newArray c len v).wp Q E e d acts s := by
  have hfit : ∀ (i : Nat) (w : Value), (Array.replicate len v)[i]? = some w → s.fitsSlot c .none i w = true := by
    intro i w hw
    rw [Array.getElem?_replicate] at hw
    split at hw
    · cases hw; simp [State.fitsSlot, State.slotType?, hk, hkind, hf]
    · cases hw
  have hac : allocActs (Array.replicate len v) s.heap.size acts = acts := by
    have : ((Array.replicate len v).all (·.isDefault)) = true := by
      rw [Array.all_replicate]; split <;> simp [hd]
    unfold allocActs; rw [if_pos this]
  simp only [Jvm.newArray, Jvm.arrayFits, _root_.Jvm.Sem.wp_bind', W.ask, W.ite, hl, if_false, _root_.Jvm.Sem.wp_pure', W.theClass, hk, hkind, hh, W.alloc, W.stop, Option.some.injEq, exists_eq_left', Array.size_replicate, hac]
  rw [if_neg (by omega)]
  exact ⟨h1, h2, hfit, hq⟩
theorem wp_rows {cA comp cc : ClassId} {k kc : Class} {n m : Int32} (hk : s.vm.classes[cA]? = some k) (hkind : k.kind = .array comp (.array .int)) (hkc : s.vm.classes[comp]? = some kc) (hkindc : kc.kind = .array cc .int) (hn : ¬ n < 0) (hm : ¬ m < 0) (l1 : ¬ n.toNatClampNeg > e.platform.arrayLengthLimit) (g1 : ¬ n.toNatClampNeg * 4 > e.platform.maxHeapBytes) (l2 : ¬ m.toNatClampNeg > e.platform.arrayLengthLimit) (g2 : ¬ m.toNatClampNeg * 4 > e.platform.maxHeapBytes) (hc : s.heap.size + 1 + n.toNatClampNeg ≤ e.platform.maxCells) (hs : s.slotsUsed + n.toNatClampNeg + n.toNatClampNeg * m.toNatClampNeg ≤ e.platform.maxSlots) {Q : Addr → Jvm.Pre} (hq : ∀ d' acts', Q s.heap.size d' acts' (rwT s cA comp n.toNatClampNeg m.toNatClampNeg n.toNatClampNeg)) : (multianewarray.make cA [n, m]).wp Q E e d acts s := by
  have hfind : ([m].find? (· < 0)) = none := by simp [hm]
  rw [multianewarray.make]
  simp only [_root_.Jvm.Sem.wp_bind', W.ite, hn, if_false, _root_.Jvm.Sem.wp_pure', W.theClass, hk, hkind, Option.some.injEq, exists_eq_left']
  refine wp_row hk hkind l1 g1 rfl rfl (by omega) (by have := Nat.zero_le (n.toNatClampNeg * m.toNatClampNeg); omega) ?_
  simp only [hfind]
  rw [ite_self, _root_.Jvm.Sem.wp_bind', Std.Legacy.Range.forIn_eq_forIn_range']
  have hsz : ([:n.toNatClampNeg] : Std.Legacy.Range).size = n.toNatClampNeg := by simp [Std.Legacy.Range.size]
  rw [hsz]
  refine wp_forIn_inv (fun rest s' => ∃ i : Nat, i ≤ n.toNatClampNeg ∧ rest = List.range' i (n.toNatClampNeg - i) ∧ s' = rwT s cA comp n.toNatClampNeg m.toNatClampNeg i) _ _ ⟨0, Nat.zero_le _, rfl, rfl⟩ ?_ ?_
  · rintro x rest s' d' acts' Q' ⟨i, hi, hl, rfl⟩ hnext
    have hlt : i < n.toNatClampNeg := by
      rcases Nat.lt_or_ge i n.toNatClampNeg with q | q
      · exact q
      · rw [show n.toNatClampNeg - i = 0 by omega] at hl; simp at hl
    rw [show n.toNatClampNeg - i = (n.toNatClampNeg - (i + 1)) + 1 by omega, List.range'_succ] at hl
    obtain ⟨rfl, hrest⟩ := List.cons.inj hl
    obtain ⟨f1, f2, f3, f4, -, -⟩ := rwT_f s cA comp n.toNatClampNeg m.toNatClampNeg x
    obtain ⟨o1, o2, o3, -⟩ := rwO_f cA n.toNatClampNeg s.heap.size x
    have hmul : x * m.toNatClampNeg + m.toNatClampNeg ≤ n.toNatClampNeg * m.toNatClampNeg := by
      have := Nat.mul_le_mul_right m.toNatClampNeg (show x + 1 ≤ n.toNatClampNeg from hlt)
      rw [Nat.succ_mul] at this; exact this
    simp only [_root_.Jvm.Sem.wp_bind']
    rw [multianewarray.make]
    simp only [_root_.Jvm.Sem.wp_bind', W.ite, hm, if_false, _root_.Jvm.Sem.wp_pure', W.theClass, f3, hkc, hkindc, Option.some.injEq, exists_eq_left']
    refine wp_row (by rw [f3]; exact hkc) hkindc l2 g2 rfl rfl (by rw [f1]; omega) (by rw [f4]; omega) ?_
    have h0 : s.heap.size < (rwT s cA comp n.toNatClampNeg m.toNatClampNeg x).heap.size := by rw [f1]; omega
    simp only [_root_.Jvm.Sem.wp_bind', W.writeLoc, _root_.Jvm.Sem.wp_pure']
    refine ⟨rwO cA n.toNatClampNeg s.heap.size x, by rw [State.heap_pushCell_of_lt (h := h0)]; exact f2, by rw [o2]; simp, by rw [o3]; exact hlt, ?_, hnext _ _ _ ⟨x + 1, hlt, hrest, ?_⟩⟩
    · rw [o1, o2]
      simp [State.fitsSlot, State.slotType?, f3, hk, hkind, fits]
    · rw [f1]; rfl
  · rintro s' d' acts' ⟨i, hi, hl, rfl⟩
    have hiN : i = n.toNatClampNeg := by
      rcases Nat.lt_or_ge i n.toNatClampNeg with q | q
      · rw [show n.toNatClampNeg - i = (n.toNatClampNeg - (i + 1)) + 1 by omega, List.range'_succ] at hl; cases hl
      · omega
    subst hiN
    simp only [_root_.Jvm.Sem.wp_pure']
    exact hq _ _
end MNW
section MNX
variable {p : Program} {l : Launch} {e : Env} {R : Room} {s : State} {m : MethodId} {args : Array Value} {below : List Frame} {meth : Method} {c : Code} {T : State} {locs : List Loc} {cells slots : Nat}
theorem rw_stand (X : Stand p l e R s m args below meth c T locs cells slots) (hz : s.heap.size ≤ T.heap.size) (cA comp : ClassId) (N M : Nat) : ∀ i : Nat, Stand p l e R s m args below meth c (rwT T cA comp N M i) locs (cells + 1 + i) (slots + N + i * M) := by
  intro i
  induction i with
  | zero =>
    have h := X.pushed (rwO cA N T.heap.size 0)
    rw [(rwO_f cA N T.heap.size 0).2.2.1] at h
    rw [Nat.zero_mul]
    exact h
  | succ i ih =>
    obtain ⟨f1, f2, -⟩ := rwT_f T cA comp N M i
    have hc : ((rwT T cA comp N M i).pushCell (rwR comp M)).heap[T.heap.size]? = some (rwO cA N T.heap.size i) := by
      rw [State.heap_pushCell_of_lt (h := show T.heap.size < (rwT T cA comp N M i).heap.size by omega)]; exact f2
    have h := Jvm.Stand.forget ((ih.pushed (rwR comp M)).stored hc i (.ref (T.heap.size + 1 + i))) (fun y hy => by rw [List.mem_singleton.mp hy]; exact hz)
    have q1 : (rwR comp M).slots.size = M := by simp [rwR]
    rw [q1] at h
    rw [Nat.succ_mul, ← Nat.add_assoc (slots + N)]
    exact h
theorem rw_W {cc : ByteArray} {H : Heap} {Q : State → Prop} (hexec : p.tables.exec = Jvm.exec) (hb : c.code = cc) {own : String} {index : Nat} {N M : Nat} {n k : Int32} {cA comp cB : ClassId} {kA kB : Class} (hown : s.vm.findClass own = some m.cls) (hcl : (Cond.classLink own index "[[I").before args s = true) (hfA : s.vm.findClass "[[I" = some cA) (hkA : s.vm.classes[cA]? = some kA) (hkdA : kA.kind = .array comp (.array .int)) (hkB : s.vm.classes[comp]? = some kB) (hkdB : kB.kind = .array cB .int)
    {g : JFrame} (hg : g.method = m) (hdg : decode cc g.pc = .ok (.multianewarray index 2, 4)) {rest : List Value} (hst : g.stack = .int k :: .int n :: rest) (hn : ¬ n < 0) (hk : ¬ k < 0) (hN : n.toNatClampNeg = N) (hM : k.toNatClampNeg = M) (b1 : N ≤ 1000) (b2 : M ≤ 1000) (hcs : cells + (1 + N) ≤ R.cells) (hsl : slots + (N + N * M) ≤ R.slots) {h : Nat} (hh : H.size = h) (hz : s.heap.size ≤ h)
    (kk : ∀ H' : Heap, H'.size = h + 1 + N → H'[h]? = some (rwO cA N h N) → (∀ j : Nat, j < N → H'[h + 1 + j]? = some (rwR comp M)) → (∀ q : Nat, q < h → H'[q]? = H[q]?) → W p l e R s m args below meth c H' locs (cells + 1 + N) (slots + N + N * M) Q { g with pc := g.pc + 4, stack := .ref h :: rest }) : W p l e R s m args below meth c H locs cells slots Q g := by
  subst hh hb hg hN hM
  intro T hT X
  have hpl : e.platform.magicAccessors = ({} : Platform).magicAccessors := by rw [X.admits.platform]
  obtain ⟨c0, hf0, hl0⟩ := Cond.classLink_spec hown hcl e.platform hpl
  cases hfA.symm.trans hf0
  obtain ⟨g1, g2, g3⟩ := State.classEntry (e := e) X.warmed hl0
  generalize T.vm.noted g.method.cls index (.cls cA) = vm₁ at g1 g2 g3
  obtain ⟨kA₁, hkA₁, heA⟩ := g2.alike.2.2 _ _ hkA
  obtain ⟨kB₁, hkB₁, heB⟩ := g2.alike.2.2 _ _ hkB
  have hTz : (T.setVm vm₁).heap = H := hT
  have X1 := rw_stand (X.noted g2) (by rw [hTz]; exact hz) cA comp n.toNatClampNeg k.toNatClampNeg n.toNatClampNeg
  obtain ⟨f1, f2, f3, f4, f5, f6⟩ := rwT_f (T.setVm vm₁) cA comp n.toNatClampNeg k.toNatClampNeg n.toNatClampNeg
  rw [hTz] at f1 f2 f5 f6
  obtain ⟨t2, a1, a2⟩ := kk _ f1 f2 f6 f5 _ rfl X1
  refine ⟨t2, ?_, a2⟩
  obtain ⟨r1, r2⟩ := X.roomAbove hcs hsl
  have hl1 : ¬ n.toNatClampNeg > e.platform.arrayLengthLimit := by rw [Launch.admits_arrayLengthLimit X.admits]; omega
  have hh1 : ¬ n.toNatClampNeg * 4 > e.platform.maxHeapBytes := by rw [Launch.admits_maxHeapBytes X.admits]; omega
  have hl2 : ¬ k.toNatClampNeg > e.platform.arrayLengthLimit := by rw [Launch.admits_arrayLengthLimit X.admits]; omega
  have hh2 : ¬ k.toNatClampNeg * 4 > e.platform.maxHeapBytes := by rw [Launch.admits_maxHeapBytes X.admits]; omega
  jvm_step X.here [hexec, hdg]
  simp only [multianewarray.sem, _root_.Jvm.Sem.wp_bind', W.resolveClassAt_links (State.method?_setTop g X.here.top) g1]
  rw [W.popN, if_neg (by decide)]
  refine ⟨g, State.topJava?_setTop' (s := T.setVm vm₁) g X.here.top, [.int n, .int k], rest, rfl, hst, ?_⟩
  simp only [List.mapM_cons, List.mapM_nil, _root_.Jvm.Sem.wp_bind', _root_.Jvm.Sem.wp_pure']
  refine wp_rows (k := kA₁) (kc := kB₁) hkA₁ (by rw [heA]; exact hkdA) hkB₁ (by rw [heB]; exact hkdB) hn hk hl1 hh1 hl2 hh2 (by show T.heap.size + 1 + _ ≤ _; omega) (by show T.slotsUsed + _ + _ ≤ _; omega) (fun d' acts' => ?_)
  have eS : ((T.setTop g).setVm vm₁).setTop { g with stack := rest } = (T.setVm vm₁).setTop { g with stack := rest } := by
    show ((T.setVm vm₁).setTop g).setTop _ = _
    rw [State.setTop_setTop]
  rw [eS, rwT_top]
  simp only [_root_.Jvm.Sem.wp_bind', W.mark, W.pushRef, State.topJava?_setTop' _ X1.here.top, Option.some.injEq, exists_eq_left', State.setTop_setTop, State.heap_setTop]
  intro acts
  simp [jvm, X1.here.top]
  rw [hT]
  exact a1
end MNX
theorem obI_1 : Cond.instanceMethod Lib.objectInit ∈ tb := tb_1 (List.mem_of_getElem? (i := 27) (by decide +kernel)) rfl
theorem obI_2 : Cond.code Lib.objectInit { data := #[177] } 1 none ∈ tb := tb_1 (List.mem_of_getElem? (i := 28) rfl) rfl
section NEW2
variable {G : gG} {l : Launch} {μ ν : MU} {d d' mc ms cb sb cb0 sb0 mc' ms' : Nat} {pc pc' : Nat} {ls : List (Option Value)} {st rest : List Value} {h : ph} {Q Q1 : Option Value → ph → Prop}
/-- n rows of m numbers, and the row of them -/
def sRw (h : ph) (n m : Nat) : ph := (hN h + 1 + n, fun q => if q < hN h then hK h q else if q = hN h then (104, (n : Int)) else (100, (m : Int)), fun q => if q < hN h then hI h q else fun _ => 0, fun q => if q < hN h then hJ h q else fun _ => 0,
  fun q => if q < hN h then hR h q else if q = hN h then (fun j => if 0 ≤ j ∧ j < (n : Int) then some (hN h + 1 + j.toNat) else none) else fun _ => none)
theorem cell_rw (G : gG) (h : ph) (n m : Nat) {j : Nat} (hj : j < hN h) : cellE G (sRw h n m) j = cellE G h j := by
  have e1 : hK (sRw h n m) j = hK h j := if_pos hj
  have e2 : hI (sRw h n m) j = hI h j := if_pos hj
  have e3 : hJ (sRw h n m) j = hJ h j := if_pos hj
  have e4 : hR (sRw h n m) j = hR h j := if_pos hj
  unfold cellE fsE arE fv
  rw [e1, e2, e3, e4]
theorem rwO_s (cA : ClassId) (N h0 : Nat) : ∀ i : Nat, ∃ S : Array Value, rwO cA N h0 i = { cls := cA, slots := S } := by
  intro i
  induction i with
  | zero => exact ⟨_, rfl⟩
  | succ i ih =>
    obtain ⟨S, hS⟩ := ih
    refine ⟨S.setIfInBounds i (.ref (h0 + 1 + i)), ?_⟩
    rw [rwO, hS]
    rfl
theorem rwO_arr (cA : ClassId) (N h0 : Nat) {F : Nat → Value} (hF : ∀ j : Nat, j < N → F j = .ref (h0 + 1 + j)) : rwO cA N h0 N = arrV cA N F := by
  obtain ⟨a, b, c, d⟩ := rwO_f cA N h0 N
  obtain ⟨S, hS⟩ := rwO_s cA N h0 N
  have hs : S = (arrV cA N F).slots := by
    apply Array.ext_getElem?
    intro j
    rw [hS] at c d
    by_cases hj : j < N
    · have := d j hj
      rw [if_pos hj] at this
      rw [show S[j]? = some (.ref (h0 + 1 + j)) from this]
      simp [arrV, hj, hF j hj]
    · have c' : S.size = N := c
      rw [Array.getElem?_eq_none (by omega), Array.getElem?_eq_none (by simp [arrV]; omega)]
  rw [hS, hs]
  rfl
theorem HR.rows {H H' : Heap} (hH : HR G h H) {n m : Nat} (hlt : hN h + 1 + n ≤ 1000000) (hz : H'.size = H.size + 1 + n) (c1 : H'[H.size]? = some (rwO (gA G 4) n H.size n)) (c2 : ∀ j : Nat, j < n → H'[H.size + 1 + j]? = some (rwR (gA G 0) m)) (ho : ∀ q : Nat, q < H.size → H'[q]? = H[q]?) : HR G (sRw h n m) H' := by
  have hs := hH.1
  refine ⟨by rw [hz, hs]; show gB G + hN h + 1 + n = gB G + (hN h + 1 + n); omega, hlt, fun j x hx => ?_⟩
  have hj : j < hN h + 1 + n := by
    have := len_of hx
    rw [ws_len] at this
    exact this
  rw [ws_get G (sRw h n m) hj] at hx
  cases hx
  by_cases e0 : j < hN h
  · rw [cell_rw G h n m e0]
    have h1 := hH.2.2.kept (H1 := H') (fun i y hy => by
      have hi := len_of hy
      rw [ws_len] at hi
      rw [ws_get G h hi] at hy
      cases hy
      exact ho _ (show gB G + i < H.size by omega))
    exact h1 j _ (ws_get G h e0)
  · by_cases e : j = hN h
    · subst e
      have hk : hK (sRw h n m) (hN h) = (100 + 4, (n : Int)) := by show (if hN h < hN h then _ else if hN h = hN h then _ else _) = _; rw [if_neg e0, if_pos rfl]
      rw [cell_arr G hk]
      show H'[gB G + hN h]? = some (arrV (gA G 4) ((n : Int)).toNat (fun j : Nat => va_rf ((hR (sRw h n m) (hN h) j).map (adr G))))
      rw [← hs, c1, rwO_arr]
      · rfl
      · intro j hj
        have hr : hR (sRw h n m) (hN h) j = some (hN h + 1 + j) := by
          have e9 : hR (sRw h n m) (hN h) = (fun j : Int => if 0 ≤ j ∧ j < (n : Int) then some (hN h + 1 + j.toNat) else none) := (if_neg e0).trans (if_pos rfl)
          rw [e9]
          exact if_pos (by omega)
        rw [hr]
        show Value.ref (adr G (hN h + 1 + j)) = _
        rw [adr_lt G (by omega), hs]
        simp only [Nat.add_assoc]
    · have hk : hK (sRw h n m) j = (100 + 0, (m : Int)) := by show (if j < hN h then _ else if j = hN h then _ else _) = _; rw [if_neg e0, if_neg e]
      rw [cell_arr G hk]
      show H'[gB G + j]? = some (arrV (gA G 0) ((m : Int)).toNat (fun i : Nat => .int (iI (hI (sRw h n m) j i))))
      have e2 : hI (sRw h n m) j = fun _ => 0 := if_neg e0
      rw [e2, show gB G + j = H.size + 1 + (j - hN h - 1) by omega, c2 _ (by omega)]
      show some (rwR (gA G 0) m) = some (arrV (gA G 0) m (fun _ => .int (iI 0)))
      rw [← arrV_new]
      rfl
theorem va_S.grow {A : Nat → Prop} {H0 H H' : Heap} {locs : List Loc} (hS : va_S A H0 H locs) (hz : H.size ≤ H'.size) (ho : ∀ q : Nat, q < H.size → H'[q]? = H[q]?) : va_S A H0 H' locs := ⟨Nat.le_trans hS.1 hz, fun x h1 h2 => (ho x (Nat.lt_of_lt_of_le h1 hS.1)).trans (hS.2.1 x h1 h2), hS.2.2⟩
def MnC (μ : MU) (pc pc' : Nat) : Prop := ∃ idx : Nat, decode (mB μ) pc = .ok (.multianewarray idx 2, 4) ∧ pc' = pc + 4 ∧ Cond.classLink (mO μ) idx "[[I" ∈ tb
theorem r_mnew {n m : Nat} (hd : MnC μ pc pc') (b1 : n ≤ 1000) (b2 : m ≤ 1000) (hM : hN h + 1 + n ≤ 1000000) (hcb : cb0 = cb + (1 + n)) (hsb : sb0 = sb + (n + n * m)) (k : Co G l μ d mc ms cb sb pc' ls (.ref (hN h) :: st) (sRw h n m) Q) : Co G l μ d mc ms cb0 sb0 pc ls (vI m :: vI n :: st) h Q := by
  obtain ⟨idx, hdc, rfl, w1⟩ := hd
  subst hcb hsb
  intro p e s me args below meth c H locs cells slots lsR C hH hS hL hcc hs
  obtain ⟨e1, e2⟩ := iI_idx (z := (n : Int)) (n := (n : Int) + 1) (by omega) (by omega)
  obtain ⟨e3, e4⟩ := iI_idx (z := (m : Int)) (n := (m : Int) + 1) (by omega) (by omega)
  obtain ⟨kA, hkA, hkd⟩ := C.wd.1.2.2.2.2.2
  obtain ⟨cB, kB, cc, hfB, hkB, hkdB⟩ := Cond.arrayClass_spec (C.tb _ aInt)
  have hf0 : s.vm.findClass ("[" ++ FieldType.int.toString) = some (gA G 0) := (C.K.2 0 _ rfl).2
  have hf4 : s.vm.findClass ("[" ++ (FieldType.array .int).toString) = some (gA G 4) := (C.K.2 4 _ rfl).2
  have hB : cB = gA G 0 := by rw [hf0] at hfB; exact (Option.some.inj hfB).symm
  subst hB
  refine rw_W C.1 C.2.1 C.own (C.tb _ w1) hf4 hkA hkd hkB hkdB rfl hdc rfl (fun q => e1 (Or.inl q)) (fun q => e3 (Or.inl q)) e2 e4 b1 b2 (show cells + (1 + n) ≤ mc by omega) (show slots + (n + n * m) ≤ ms by omega) rfl hS.1 (fun H' c1 c2 c3 c4 => ?_)
  have kk := k p e s me args below meth c H' locs (cells + 1 + n) (slots + n + n * m) lsR C (hH.rows hM c1 c2 c3 c4) (hS.grow (by rw [c1]; omega) c4) hL (by omega) (by omega)
  have ha : tv G (.ref (hN h)) = .ref H.size := by show Value.ref (adr G (hN h)) = _; rw [adr_lt G (by omega), hH.1]
  simp only [List.map_cons, ha] at kk
  exact kk
def AnC (μ : MU) (pc pc' : Nat) : Prop := ∃ idx : Nat, decode (mB μ) pc = .ok (.anewarray idx, 3) ∧ pc' = pc + 3 ∧ Cond.classLink (mO μ) idx "RockingGuard$Script" ∈ tb
theorem r_anew {n : Int} (hd : AnC μ pc pc') (hn : 0 ≤ n ∧ n ≤ 100000) (hM : hN h < 1000000) (hcb : cb0 = cb + 1) (hsb : sb0 = sb + n.toNat) (k : Co G l μ d mc ms cb sb pc' ls (.ref (hN h) :: st) (sNew h (103, n)) Q) : Co G l μ d mc ms cb0 sb0 pc ls (vI n :: st) h Q := by
  obtain ⟨idx, hdc, rfl, w1⟩ := hd
  subst hcb hsb
  intro p e s m args below meth c H locs cells slots lsR C hH hS hL hcc hs
  obtain ⟨e1, e2⟩ := iI_idx (z := n) (n := n + 1) (by omega) (by omega)
  have hO : (Cond.arrayOver (.object "RockingGuard$Script")).before args s = true := va_AO.use C.wd.1.2.2.2.2.1
  refine W.anew C.1 C.2.1 C.own (C.tb _ w1) hO rfl hdc rfl (fun q => e1 (Or.inl q)) (by rw [e2]; omega) (show cells + 1 ≤ mc by omega) (by rw [e2]; show slots + n.toNat ≤ ms; omega) (fun cA kA comp h1 h2 h3 h4 => ?_)
  obtain ⟨kA', comp', h2', h3', h4', h1'⟩ := (C.K.2 3 _ rfl).2
  have hA : cA = gA G 3 := by
    have h2 : s.vm.findClass ("[" ++ (FieldType.object "RockingGuard$Script").toString) = some (gA G 3) := h1'
    rw [h1] at h2
    exact Option.some.inj h2
  subst hA
  have hz : (H.push { cls := gA G 3, slots := Array.replicate (iI n).toNatClampNeg Value.null }).size = H.size + 1 := by simp
  have hq9 : ∀ q : Nat, q < H.size → (H.push { cls := gA G 3, slots := Array.replicate (iI n).toNatClampNeg Value.null })[q]? = H[q]? := fun q hq => by rw [Array.getElem?_push, if_neg (Nat.ne_of_lt hq)]
  have kk := k p e s m args below meth c _ locs (cells + 1) (slots + n.toNat) lsR C (hH.new hM hz hq9 ?_) (hS.new hz hq9) hL (by omega) (by omega)
  · have ha : tv G (.ref (hN h)) = .ref H.size := by show Value.ref (adr G (hN h)) = _; rw [adr_lt G hM, hH.1]
    simp only [List.map_cons, ha] at kk
    rw [e2] at *
    exact kk
  · rw [cell_arr G (h := sNew h (103, n)) (t := 3) (n := n) (u2_s _ _ _)]
    show _ = some (arrV (gA G 3) n.toNat (fun j : Nat => va_rf ((hR (sNew h (103, n)) (hN h) j).map (adr G))))
    have e3 : hR (sNew h (103, n)) (hN h) = fun _ => none := u2_s _ _ _
    rw [e3, e2, ← hH.1]
    show _ = some (arrV (gA G 3) n.toNat (fun _ => .null))
    rw [← arrV_new]
    simp
def ObI (μ : MU) (pc pc' : Nat) : Prop := ∃ idx : Nat, decode (mB μ) pc = .ok (.invokespecial idx, 3) ∧ pc' = pc + 3 ∧ Cond.methodLink (mO μ) idx Lib.objectInit ∈ tb
theorem r_obj {o : Nat} (hd : ObI μ pc pc') (hdp : 1 ≤ d) (hcat : (st.map fun v => v.category).sum ≤ 8) (k : Co G l μ d mc ms cb sb pc' ls st h Q) : Co G l μ d mc ms cb sb pc ls (.ref o :: st) h Q := by
  obtain ⟨idx, hdc, rfl, w1⟩ := hd
  intro p e s m args below meth c H locs cells slots lsR C hH hS hL hcc hs
  have hcat2 : ((st.map (tv G)).map fun v => v.category).sum ≤ 8 := by
    have e : (st.map (tv G)).map (fun v => v.category) = st.map (fun v => v.category) := by simp [tv_cat]
    rw [e]; exact hcat
  refine W.objInit C.1 C.2.1 C.own (C.tb _ w1) (C.tb _ obI_1) (C.tb _ obI_2) rfl (by show lsR.size = c.maxLocals; rw [hL.1, C.2.2.2.1]) rfl hdc hdp (by show 2 * 0 + _ + 12 ≤ 100 * d; omega) ?_
  exact k p e s m args below meth c H locs cells slots lsR C hH hS hL hcc hs
theorem r_newa' {n : Int} (hd : Ins μ pc (.newarray .int) 2 pc') (hn : 0 ≤ n ∧ n ≤ 100000) (hM : hN h < 1000000) (hcb : cb0 = cb + 1) (hsb : sb0 = sb + n.toNat) (k : Co G l μ d mc ms cb sb pc' ls (.ref (hN h) :: st) (sNew h (100, n)) Q) : Co G l μ d mc ms cb0 sb0 pc ls (vI n :: st) h Q := by subst hcb hsb; exact r_newa hd hn hM k
theorem r_newz' {n : Int} (hd : Ins μ pc (.newarray .boolean) 2 pc') (hn : 0 ≤ n ∧ n ≤ 100000) (hM : hN h < 1000000) (hcb : cb0 = cb + 1) (hsb : sb0 = sb + n.toNat) (k : Co G l μ d mc ms cb sb pc' ls (.ref (hN h) :: st) (sNew h (102, n)) Q) : Co G l μ d mc ms cb0 sb0 pc ls (vI n :: st) h Q := by subst hcb hsb; exact r_newz hd hn hM k
theorem r_newl' {n : Int} (hd : Ins μ pc (.newarray .long) 2 pc') (hn : 0 ≤ n ∧ n ≤ 100000) (hM : hN h < 1000000) (hcb : cb0 = cb + 1) (hsb : sb0 = sb + n.toNat) (k : Co G l μ d mc ms cb sb pc' ls (.ref (hN h) :: st) (sNew h (101, n)) Q) : Co G l μ d mc ms cb0 sb0 pc ls (vI n :: st) h Q := by subst hcb hsb; exact r_newl hd hn hM k
theorem r_new' {ci cn : Nat} (hd : NwC μ pc pc' ci) (hM : hN h < 1000000) (hcn : cnum ci = cn) (hcb : cb0 = cb + 1) (hsb : sb0 = sb + cn) (k : Co G l μ d mc ms cb sb pc' ls (.ref (hN h) :: st) (sNew h (ci, 0)) Q) : Co G l μ d mc ms cb0 sb0 pc ls st h Q := by subst hcn hcb hsb; exact r_new hd hM k
theorem c_cV {as : List Value} {o : Nat} {h' : ph} (hc : CalC μ pc pc' ν) (hM : Ev G l ν d' mc' ms' (.ref o :: as) h (eV h')) (hd : d' < d) (hst : st = as.reverse ++ .ref o :: rest) (hn : as.length = mN ν) (hcat : (rest.map fun v => v.category).sum ≤ 8) (hcb : cb0 = cb + mc') (hsb : sb0 = sb + ms') (k : Co G l μ d mc ms cb sb pc' ls rest h' Q) : Co G l μ d mc ms cb0 sb0 pc ls st h Q := by
  subst hcb hsb
  exact co_callC hc hM hd hst hn hcat (fun r h1 hq => by obtain ⟨rfl, rfl⟩ := hq; exact k)
theorem Ob.new {o ci : Nat} {k : Nat × Int} (ho : Ob h o ci) : Ob (sNew h k) o ci := ⟨Nat.lt_succ_of_lt ho.1, by rw [show hK (sNew h k) o = hK h o from u2_n _ _ (Nat.ne_of_lt ho.1)]; exact ho.2⟩
theorem Ob.rw {o ci n m : Nat} (ho : Ob h o ci) : Ob (sRw h n m) o ci := ⟨show o < hN h + 1 + n by have := ho.1; omega, by rw [show hK (sRw h n m) o = hK h o from if_pos ho.1]; exact ho.2⟩
theorem Ob.pR {o ci q : Nat} {j : Int} {v : Option Nat} (ho : Ob h o ci) : Ob (sR h q j v) o ci := ho
theorem Ob.pI {o ci q : Nat} {j v : Int} (ho : Ob h o ci) : Ob (sI h q j v) o ci := ho
theorem Ob.pA {o ci q : Nat} {f : Int → Int} (ho : Ob h o ci) : Ob (sA h q f) o ci := ho
end NEW2
theorem nX5_init_1 : ObI mX5_init 1 4 := ⟨3, by decide +kernel, rfl, tb_1 (List.mem_of_getElem? (i := 150) (by decide +kernel)) rfl⟩
theorem nX7_init_1 : ObI mX7_init 1 4 := ⟨5, by decide +kernel, rfl, tb_1 (List.mem_of_getElem? (i := 40) (by decide +kernel)) rfl⟩
theorem nX6_init_1 : ObI mX6_init 1 4 := ⟨3, by decide +kernel, rfl, tb_1 (List.mem_of_getElem? (i := 62) (by decide +kernel)) rfl⟩
theorem nX6_init_9 : MnC mX6_init 9 13 := ⟨11, by decide +kernel, rfl, tb_1 (List.mem_of_getElem? (i := 63) (by decide +kernel)) rfl⟩
theorem nX8_init_1 : ObI mX8_init 1 4 := ⟨3, by decide +kernel, rfl, tb_1 (List.mem_of_getElem? (i := 81) (by decide +kernel)) rfl⟩
theorem nX9_init_1 : ObI mX9_init 1 4 := ⟨3, by decide +kernel, rfl, tb_1 (List.mem_of_getElem? (i := 34) (by decide +kernel)) rfl⟩
theorem nX9_init_5 : NwC mX9_init 5 8 6 := ⟨9, (RX7, TX7, 4), tyX7, by decide +kernel, rfl, rfl, rfl, by decide, tb_1 (List.mem_of_getElem? (i := 35) (by decide +kernel)) rfl, tb_1 (List.mem_of_getElem? (i := 36) (by decide +kernel)) rfl, tb_1 (List.mem_of_getElem? (i := 3) (by decide +kernel)) rfl, inX7, tyX7_ok, by decide +kernel⟩
theorem nX9_init_16 : NwC mX9_init 16 19 5 := ⟨18, (RX6, TX6, 3), tyX6, by decide +kernel, rfl, rfl, rfl, by decide, tb_1 (List.mem_of_getElem? (i := 57) (by decide +kernel)) rfl, tb_1 (List.mem_of_getElem? (i := 58) (by decide +kernel)) rfl, tb_1 (List.mem_of_getElem? (i := 4) (by decide +kernel)) rfl, inX6, tyX6_ok, by decide +kernel⟩
theorem nX9_init_27 : NwC mX9_init 27 30 7 := ⟨25, (RX8, TX8, 5), tyX8, by decide +kernel, rfl, rfl, rfl, by decide, tb_1 (List.mem_of_getElem? (i := 76) (by decide +kernel)) rfl, tb_1 (List.mem_of_getElem? (i := 77) (by decide +kernel)) rfl, tb_1 (List.mem_of_getElem? (i := 5) (by decide +kernel)) rfl, inX8, tyX8_ok, by decide +kernel⟩
theorem nX9_init_40 : NwC mX9_init 40 43 7 := ⟨25, (RX8, TX8, 5), tyX8, by decide +kernel, rfl, rfl, rfl, by decide, tb_1 (List.mem_of_getElem? (i := 76) (by decide +kernel)) rfl, tb_1 (List.mem_of_getElem? (i := 77) (by decide +kernel)) rfl, tb_1 (List.mem_of_getElem? (i := 5) (by decide +kernel)) rfl, inX8, tyX8_ok, by decide +kernel⟩
theorem nX9_init_53 : NwC mX9_init 53 56 7 := ⟨25, (RX8, TX8, 5), tyX8, by decide +kernel, rfl, rfl, rfl, by decide, tb_1 (List.mem_of_getElem? (i := 76) (by decide +kernel)) rfl, tb_1 (List.mem_of_getElem? (i := 77) (by decide +kernel)) rfl, tb_1 (List.mem_of_getElem? (i := 5) (by decide +kernel)) rfl, inX8, tyX8_ok, by decide +kernel⟩
theorem nX9_init_66 : NwC mX9_init 66 69 7 := ⟨25, (RX8, TX8, 5), tyX8, by decide +kernel, rfl, rfl, rfl, by decide, tb_1 (List.mem_of_getElem? (i := 76) (by decide +kernel)) rfl, tb_1 (List.mem_of_getElem? (i := 77) (by decide +kernel)) rfl, tb_1 (List.mem_of_getElem? (i := 5) (by decide +kernel)) rfl, inX8, tyX8_ok, by decide +kernel⟩
theorem nX3_init_1 : ObI mX3_init 1 4 := ⟨3, by decide +kernel, rfl, tb_1 (List.mem_of_getElem? (i := 144) (by decide +kernel)) rfl⟩
theorem nX3_init_61 : NwC mX3_init 61 64 4 := ⟨37, (RX5, TX5, 9), tyX5, by decide +kernel, rfl, rfl, rfl, by decide, tb_1 (List.mem_of_getElem? (i := 145) (by decide +kernel)) rfl, tb_1 (List.mem_of_getElem? (i := 146) (by decide +kernel)) rfl, tb_1 (List.mem_of_getElem? (i := 8) (by decide +kernel)) rfl, inX5, tyX5_ok, by decide +kernel⟩
theorem nX1_init_1 : ObI mX1_init 1 4 := ⟨3, by decide +kernel, rfl, tb_1 (List.mem_of_getElem? (i := 232) (by decide +kernel)) rfl⟩
theorem nX0_init_1 : ObI mX0_init 1 4 := ⟨3, by decide +kernel, rfl, tb_2 (List.mem_of_getElem? (i := 7) (by decide +kernel)) rfl⟩
theorem nX4_init_1 : ObI mX4_init 1 4 := ⟨3, by decide +kernel, rfl, tb_2 (List.mem_of_getElem? (i := 24) (by decide +kernel)) rfl⟩
theorem nX10_init_1 : ObI mX10_init 1 4 := ⟨1, by decide +kernel, rfl, tb_1 (List.mem_of_getElem? (i := 26) (by decide +kernel)) rfl⟩
theorem nX10_init_5 : NwC mX10_init 5 8 8 := ⟨7, (RX9, TX9, 8), tyX9, by decide +kernel, rfl, rfl, rfl, by decide, tb_1 (List.mem_of_getElem? (i := 29) (by decide +kernel)) rfl, tb_1 (List.mem_of_getElem? (i := 30) (by decide +kernel)) rfl, tb_1 (List.mem_of_getElem? (i := 2) (by decide +kernel)) rfl, inX9, tyX9_ok, by decide +kernel⟩
theorem nX10_init_16 : NwC mX10_init 16 19 8 := ⟨7, (RX9, TX9, 8), tyX9, by decide +kernel, rfl, rfl, rfl, by decide, tb_1 (List.mem_of_getElem? (i := 29) (by decide +kernel)) rfl, tb_1 (List.mem_of_getElem? (i := 30) (by decide +kernel)) rfl, tb_1 (List.mem_of_getElem? (i := 2) (by decide +kernel)) rfl, inX9, tyX9_ok, by decide +kernel⟩
theorem nX10_init_28 : AnC mX10_init 28 31 := ⟨19, by decide +kernel, rfl, tb_1 (List.mem_of_getElem? (i := 137) (by decide +kernel)) rfl⟩
theorem nX10_init_35 : NwC mX10_init 35 38 2 := ⟨25, (RX3, TX3, 12), tyX3, by decide +kernel, rfl, rfl, rfl, by decide, tb_1 (List.mem_of_getElem? (i := 139) (by decide +kernel)) rfl, tb_1 (List.mem_of_getElem? (i := 140) (by decide +kernel)) rfl, tb_1 (List.mem_of_getElem? (i := 7) (by decide +kernel)) rfl, inX3, tyX3_ok, by decide +kernel⟩
theorem nX10_init_46 : NwC mX10_init 46 49 1 := ⟨32, (RX1, TX1, 2), tyX1, by decide +kernel, rfl, rfl, rfl, by decide, tb_1 (List.mem_of_getElem? (i := 227) (by decide +kernel)) rfl, tb_1 (List.mem_of_getElem? (i := 228) (by decide +kernel)) rfl, tb_1 (List.mem_of_getElem? (i := 9) (by decide +kernel)) rfl, inX1, tyX1_ok, by decide +kernel⟩
theorem nX10_init_57 : NwC mX10_init 57 60 6 := ⟨39, (RX7, TX7, 4), tyX7, by decide +kernel, rfl, rfl, rfl, by decide, tb_2 (List.mem_of_getElem? (i := 0) (by decide +kernel)) rfl, tb_1 (List.mem_of_getElem? (i := 36) (by decide +kernel)) rfl, tb_1 (List.mem_of_getElem? (i := 3) (by decide +kernel)) rfl, inX7, tyX7_ok, by decide +kernel⟩
theorem nX10_init_68 : NwC mX10_init 68 71 0 := ⟨46, (RX0, TX0, 3), tyX0, by decide +kernel, rfl, rfl, rfl, by decide, tb_2 (List.mem_of_getElem? (i := 2) (by decide +kernel)) rfl, tb_2 (List.mem_of_getElem? (i := 3) (by decide +kernel)) rfl, tb_1 (List.mem_of_getElem? (i := 10) (by decide +kernel)) rfl, inX0, tyX0_ok, by decide +kernel⟩
theorem nX10_init_79 : NwC mX10_init 79 82 3 := ⟨53, (RX4, TX4, 2), tyX4, by decide +kernel, rfl, rfl, rfl, by decide, tb_2 (List.mem_of_getElem? (i := 19) (by decide +kernel)) rfl, tb_2 (List.mem_of_getElem? (i := 20) (by decide +kernel)) rfl, tb_1 (List.mem_of_getElem? (i := 11) (by decide +kernel)) rfl, inX4, tyX4_ok, by decide +kernel⟩
theorem nX10_init_101 : NwC mX10_init 101 104 4 := ⟨19, (RX5, TX5, 9), tyX5, by decide +kernel, rfl, rfl, rfl, by decide, tb_1 (List.mem_of_getElem? (i := 137) (by decide +kernel)) rfl, tb_1 (List.mem_of_getElem? (i := 146) (by decide +kernel)) rfl, tb_1 (List.mem_of_getElem? (i := 8) (by decide +kernel)) rfl, inX5, tyX5_ok, by decide +kernel⟩
theorem nX11_init_1 : ObI mX11_init 1 4 := ⟨1, by decide +kernel, rfl, tb_5 (List.mem_of_getElem? (i := 192) (by decide +kernel)) rfl⟩
