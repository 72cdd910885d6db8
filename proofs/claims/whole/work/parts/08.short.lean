-- ===== the rules in the form in which the walks use them =====
def eI (z : Int) (h' : ph) : Option Value → ph → Prop := fun r h1 => r = some (vI z) ∧ h1 = h'
def eL (z : Int) (h' : ph) : Option Value → ph → Prop := fun r h1 => r = some (vL z) ∧ h1 = h'
def eV (h' : ph) : Option Value → ph → Prop := fun r h1 => r = none ∧ h1 = h'
def eR (q : Nat) (h' : ph) : Option Value → ph → Prop := fun r h1 => r = some (.ref q) ∧ h1 = h'
def eN (h' : ph) : Option Value → ph → Prop := fun r h1 => r = some .null ∧ h1 = h'
/-- an array that can be used -/
def Aq (h : ph) (q t : Nat) (n : Int) : Prop := Ar h q t n ∧ 0 ≤ n ∧ n ≤ 2147483647
def GgI (μ : MU) (pc pc' ci : Nat) (jz : Int) : Prop := ∃ j : Nat, jz = j ∧ FgI μ pc pc' ci j
def GgL (μ : MU) (pc pc' ci : Nat) (jz : Int) : Prop := ∃ j : Nat, jz = j ∧ FgL μ pc pc' ci j
def GgR (μ : MU) (pc pc' ci : Nat) (jz : Int) : Prop := ∃ j : Nat, jz = j ∧ FgR μ pc pc' ci j
def GpI (μ : MU) (pc pc' ci : Nat) (jz : Int) : Prop := ∃ j : Nat, jz = j ∧ FpI μ pc pc' ci j
def GpZ (μ : MU) (pc pc' ci : Nat) (jz : Int) : Prop := ∃ j : Nat, jz = j ∧ FpZ μ pc pc' ci j
def GpL (μ : MU) (pc pc' ci : Nat) (jz : Int) : Prop := ∃ j : Nat, jz = j ∧ FpL μ pc pc' ci j
def GpR (μ : MU) (pc pc' ci : Nat) (jz : Int) : Prop := ∃ j : Nat, jz = j ∧ FpR μ pc pc' ci j
section SHORT
variable {G : gG} {l : Launch} {μ ν : MU} {d d' mc ms cb sb : Nat} {pc pc' : Nat} {ls : List (Option Value)} {st rest as : List Value} {h h' : ph} {Q Q1 : Option Value → ph → Prop} {ci o q : Nat} {jz x i n z : Int}
theorem r_getI (hd : GgI μ pc pc' ci jz) (ho : Ob h o ci) (k : Co G l μ d mc ms cb sb pc' ls (vI (hI h o jz) :: st) h Q) : Co G l μ d mc ms cb sb pc ls (.ref o :: st) h Q := by
  obtain ⟨j, rfl, hd, hc, ht⟩ := hd
  exact co_getI hd ho.1 ho.kk hc ht k
theorem r_getL (hd : GgL μ pc pc' ci jz) (ho : Ob h o ci) (k : Co G l μ d mc ms cb sb pc' ls (vL (hJ h o jz) :: st) h Q) : Co G l μ d mc ms cb sb pc ls (.ref o :: st) h Q := by
  obtain ⟨j, rfl, hd, hc, ht⟩ := hd
  exact co_getL hd ho.1 ho.kk hc ht k
theorem r_getR (hd : GgR μ pc pc' ci jz) (ho : Ob h o ci) (hq : hR h o jz = some q) (k : Co G l μ d mc ms cb sb pc' ls (.ref q :: st) h Q) : Co G l μ d mc ms cb sb pc ls (.ref o :: st) h Q := by
  obtain ⟨j, rfl, hd, hc, ht⟩ := hd
  exact co_getR hd ho.1 ho.kk hc ht hq k
theorem r_putI (hd : GpI μ pc pc' ci jz) (ho : Ob h o ci) (k : Co G l μ d mc ms cb sb pc' ls st (sI h o jz x) Q) : Co G l μ d mc ms cb sb pc ls (vI x :: .ref o :: st) h Q := by
  obtain ⟨j, rfl, hd, hc, ht⟩ := hd
  exact co_putI hd ho.1 ho.kk hc ht k
theorem r_putZ (hd : GpZ μ pc pc' ci jz) (ho : Ob h o ci) (hx : x = 0 ∨ x = 1) (k : Co G l μ d mc ms cb sb pc' ls st (sI h o jz x) Q) : Co G l μ d mc ms cb sb pc ls (vI x :: .ref o :: st) h Q := by
  obtain ⟨j, rfl, hd, hc, ht⟩ := hd
  exact co_putZ hd ho.1 ho.kk hc ht hx k
theorem r_putL (hd : GpL μ pc pc' ci jz) (ho : Ob h o ci) (k : Co G l μ d mc ms cb sb pc' ls st (sL h o jz x) Q) : Co G l μ d mc ms cb sb pc ls (vL x :: .ref o :: st) h Q := by
  obtain ⟨j, rfl, hd, hc, ht⟩ := hd
  exact co_putL hd ho.1 ho.kk hc ht k
theorem r_putR (hd : GpR μ pc pc' ci jz) (ho : Ob h o ci) (k : Co G l μ d mc ms cb sb pc' ls st (sR h o jz (some q)) Q) : Co G l μ d mc ms cb sb pc ls (.ref q :: .ref o :: st) h Q := by
  obtain ⟨j, rfl, ty, hd, hc, ht, hty⟩ := hd
  exact co_putR hd ho.1 ho.kk hc ht (by rcases hty with ⟨c, rfl⟩ | ⟨t, rfl⟩ <;> exact ⟨rfl, rfl, rfl⟩) k
theorem r_iald (hd : Ins μ pc .iaload 1 pc') (ha : Aq h q 0 n) (hi : 0 ≤ i ∧ i < n) (k : Co G l μ d mc ms cb sb pc' ls (vI (hI h q i) :: st) h Q) : Co G l μ d mc ms cb sb pc ls (vI i :: .ref q :: st) h Q := co_iaload hd ha.1.1 ha.1.2 ha.2.2 hi k
theorem r_bald (hd : Ins μ pc .baload 1 pc') (ha : Aq h q 2 n) (hi : 0 ≤ i ∧ i < n) (k : Co G l μ d mc ms cb sb pc' ls (vI (hI h q i) :: st) h Q) : Co G l μ d mc ms cb sb pc ls (vI i :: .ref q :: st) h Q := co_baload hd ha.1.1 ha.1.2 ha.2.2 hi k
theorem r_lald (hd : Ins μ pc .laload 1 pc') (ha : Aq h q 1 n) (hi : 0 ≤ i ∧ i < n) (k : Co G l μ d mc ms cb sb pc' ls (vL (hJ h q i) :: st) h Q) : Co G l μ d mc ms cb sb pc ls (vI i :: .ref q :: st) h Q := co_laload hd ha.1.1 ha.1.2 ha.2.2 hi k
theorem r_iast (hd : Ins μ pc .iastore 1 pc') (ha : Aq h q 0 n) (hi : 0 ≤ i ∧ i < n) (k : Co G l μ d mc ms cb sb pc' ls st (sI h q i x) Q) : Co G l μ d mc ms cb sb pc ls (vI x :: vI i :: .ref q :: st) h Q := co_iastore hd ha.1.1 ha.1.2 ha.2.2 hi k
theorem r_bast (hd : Ins μ pc .bastore 1 pc') (ha : Aq h q 2 n) (hi : 0 ≤ i ∧ i < n) (hx : x = 0 ∨ x = 1) (k : Co G l μ d mc ms cb sb pc' ls st (sI h q i x) Q) : Co G l μ d mc ms cb sb pc ls (vI x :: vI i :: .ref q :: st) h Q := co_bastore hd ha.1.1 ha.1.2 ha.2.2 hi hx k
theorem r_last (hd : Ins μ pc .lastore 1 pc') (ha : Aq h q 1 n) (hi : 0 ≤ i ∧ i < n) (k : Co G l μ d mc ms cb sb pc' ls st (sL h q i x) Q) : Co G l μ d mc ms cb sb pc ls (vL x :: vI i :: .ref q :: st) h Q := co_lastore hd ha.1.1 ha.1.2 ha.2.2 hi k
theorem r_alen (hd : Ins μ pc .arraylength 1 pc') {t : Nat} (ha : Aq h q t n) (ht : t < 5) (k : Co G l μ d mc ms cb sb pc' ls (vI n :: st) h Q) : Co G l μ d mc ms cb sb pc ls (.ref q :: st) h Q := co_arraylength hd ha.1.1 ha.1.2 ht ha.2 k
-- calls with an exact end
theorem c_vI (hc : CalV μ pc pc' ν) (hM : Ev G l ν d' 0 0 (.ref o :: as) h (eI z h')) (hd : d' < d) (ho : Ob h o (mC ν)) (hst : st = as.reverse ++ .ref o :: rest) (hn : as.length = mN ν) (hcat : (rest.map fun v => v.category).sum ≤ 8) (k : Co G l μ d mc ms cb sb pc' ls (vI z :: rest) h' Q) : Co G l μ d mc ms cb sb pc ls st h Q :=
  co_callV (mc' := 0) (ms' := 0) (cb := cb) (sb := sb) hc hM hd ho hst hn hcat (fun r h1 e => by obtain ⟨rfl, rfl⟩ := e; exact k)
theorem c_vL (hc : CalV μ pc pc' ν) (hM : Ev G l ν d' 0 0 (.ref o :: as) h (eL z h')) (hd : d' < d) (ho : Ob h o (mC ν)) (hst : st = as.reverse ++ .ref o :: rest) (hn : as.length = mN ν) (hcat : (rest.map fun v => v.category).sum ≤ 8) (k : Co G l μ d mc ms cb sb pc' ls (vL z :: rest) h' Q) : Co G l μ d mc ms cb sb pc ls st h Q :=
  co_callV (mc' := 0) (ms' := 0) (cb := cb) (sb := sb) hc hM hd ho hst hn hcat (fun r h1 e => by obtain ⟨rfl, rfl⟩ := e; exact k)
theorem c_vV (hc : CalV μ pc pc' ν) (hM : Ev G l ν d' 0 0 (.ref o :: as) h (eV h')) (hd : d' < d) (ho : Ob h o (mC ν)) (hst : st = as.reverse ++ .ref o :: rest) (hn : as.length = mN ν) (hcat : (rest.map fun v => v.category).sum ≤ 8) (k : Co G l μ d mc ms cb sb pc' ls rest h' Q) : Co G l μ d mc ms cb sb pc ls st h Q :=
  co_callV (mc' := 0) (ms' := 0) (cb := cb) (sb := sb) hc hM hd ho hst hn hcat (fun r h1 e => by obtain ⟨rfl, rfl⟩ := e; exact k)
theorem c_vQ (hc : CalV μ pc pc' ν) (hM : Ev G l ν d' 0 0 (.ref o :: as) h Q1) (hd : d' < d) (ho : Ob h o (mC ν)) (hst : st = as.reverse ++ .ref o :: rest) (hn : as.length = mN ν) (hcat : (rest.map fun v => v.category).sum ≤ 8) (k : ∀ (r : Option Value) (h1 : ph), Q1 r h1 → Co G l μ d mc ms cb sb pc' ls (r.toList ++ rest) h1 Q) : Co G l μ d mc ms cb sb pc ls st h Q :=
  co_callV (mc' := 0) (ms' := 0) (cb := cb) (sb := sb) hc hM hd ho hst hn hcat k
theorem c_sI (hc : CalS μ pc pc' ν) (hM : Ev G l ν d' 0 0 as h (eI z h')) (hd : d' < d) (hst : st = as.reverse ++ rest) (hn : as.length = mN ν) (hcat : (rest.map fun v => v.category).sum ≤ 8) (k : Co G l μ d mc ms cb sb pc' ls (vI z :: rest) h' Q) : Co G l μ d mc ms cb sb pc ls st h Q :=
  co_callS (mc' := 0) (ms' := 0) (cb := cb) (sb := sb) hc hM hd hst hn hcat (fun r h1 e => by obtain ⟨rfl, rfl⟩ := e; exact k)
theorem c_sL (hc : CalS μ pc pc' ν) (hM : Ev G l ν d' 0 0 as h (eL z h')) (hd : d' < d) (hst : st = as.reverse ++ rest) (hn : as.length = mN ν) (hcat : (rest.map fun v => v.category).sum ≤ 8) (k : Co G l μ d mc ms cb sb pc' ls (vL z :: rest) h' Q) : Co G l μ d mc ms cb sb pc ls st h Q :=
  co_callS (mc' := 0) (ms' := 0) (cb := cb) (sb := sb) hc hM hd hst hn hcat (fun r h1 e => by obtain ⟨rfl, rfl⟩ := e; exact k)
theorem c_sV (hc : CalS μ pc pc' ν) (hM : Ev G l ν d' 0 0 as h (eV h')) (hd : d' < d) (hst : st = as.reverse ++ rest) (hn : as.length = mN ν) (hcat : (rest.map fun v => v.category).sum ≤ 8) (k : Co G l μ d mc ms cb sb pc' ls rest h' Q) : Co G l μ d mc ms cb sb pc ls st h Q :=
  co_callS (mc' := 0) (ms' := 0) (cb := cb) (sb := sb) hc hM hd hst hn hcat (fun r h1 e => by obtain ⟨rfl, rfl⟩ := e; exact k)
theorem c_sQ (hc : CalS μ pc pc' ν) (hM : Ev G l ν d' 0 0 as h Q1) (hd : d' < d) (hst : st = as.reverse ++ rest) (hn : as.length = mN ν) (hcat : (rest.map fun v => v.category).sum ≤ 8) (k : ∀ (r : Option Value) (h1 : ph), Q1 r h1 → Co G l μ d mc ms cb sb pc' ls (r.toList ++ rest) h1 Q) : Co G l μ d mc ms cb sb pc ls st h Q :=
  co_callS (mc' := 0) (ms' := 0) (cb := cb) (sb := sb) hc hM hd hst hn hcat k
-- what must be shown may be replaced
theorem Co.eqQ {R' : Option Value → ph → Prop} (k : Co G l μ d mc ms cb sb pc ls st h Q) (e : ∀ r h1, Q r h1 ↔ R' r h1) : Co G l μ d mc ms cb sb pc ls st h R' := by
  have : Q = R' := by funext r h1; exact propext (e r h1)
  rw [← this]; exact k
end SHORT
