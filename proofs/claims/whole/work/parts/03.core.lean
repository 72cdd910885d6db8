-- ===== the pure machine: numbers, heaps, worlds =====
def iI (z : Int) : Int32 := Int32.ofInt z
def iL (z : Int) : Int64 := Int64.ofInt z
def vI (z : Int) : Value := .int (iI z)
def vL (z : Int) : Value := .long (iL z)
theorem iI_add (x y : Int) : iI x + iI y = iI (x + y) := (Int32.ofInt_add x y).symm
theorem iI_sub (x y : Int) : iI x - iI y = iI (x - y) := (Int32.ofInt_sub x y).symm
theorem iI_mul (x y : Int) : iI x * iI y = iI (x * y) := (Int32.ofInt_mul x y).symm
theorem iI_neg (x : Int) : -iI x = iI (-x) := (Int32.ofInt_neg x).symm
theorem iL_add (x y : Int) : iL x + iL y = iL (x + y) := (Int64.ofInt_add x y).symm
theorem iL_sub (x y : Int) : iL x - iL y = iL (x - y) := (Int64.ofInt_sub x y).symm
theorem iL_mul (x y : Int) : iL x * iL y = iL (x * y) := (Int64.ofInt_mul x y).symm
theorem iL_neg (x : Int) : -iL x = iL (-x) := (Int64.ofInt_neg x).symm
theorem iI_of (x : Int32) : iI x.toInt = x := Int32.ofInt_toInt x
theorem iL_of (x : Int64) : iL x.toInt = x := Int64.ofInt_toInt x
theorem iI_int {z : Int} (h : -2147483648 ≤ z ∧ z ≤ 2147483647) : (iI z).toInt = z := Int32.toInt_ofInt_of_le (by omega) (by omega)
theorem iL_int {z : Int} (h : -9223372036854775808 ≤ z ∧ z ≤ 9223372036854775807) : (iL z).toInt = z := Int64.toInt_ofInt_of_le (by omega) (by omega)
theorem iI_rng (x : Int32) : -2147483648 ≤ x.toInt ∧ x.toInt ≤ 2147483647 := by
  have h1 := Int32.le_toInt x
  have h2 := Int32.toInt_lt x
  omega
theorem iL_rng (x : Int64) : -9223372036854775808 ≤ x.toInt ∧ x.toInt ≤ 9223372036854775807 := by
  have h1 := Int64.le_toInt x
  have h2 := Int64.toInt_lt x
  omega
theorem iI_lt {x y : Int} (hx : -2147483648 ≤ x ∧ x ≤ 2147483647) (hy : -2147483648 ≤ y ∧ y ≤ 2147483647) : iI x < iI y ↔ x < y := by
  rw [Int32.lt_iff_toInt_lt, iI_int hx, iI_int hy]
theorem iI_le {x y : Int} (hx : -2147483648 ≤ x ∧ x ≤ 2147483647) (hy : -2147483648 ≤ y ∧ y ≤ 2147483647) : iI x ≤ iI y ↔ x ≤ y := by
  rw [Int32.le_iff_toInt_le, iI_int hx, iI_int hy]
theorem iI_eq {x y : Int} (hx : -2147483648 ≤ x ∧ x ≤ 2147483647) (hy : -2147483648 ≤ y ∧ y ≤ 2147483647) : iI x = iI y ↔ x = y := by
  rw [← Int32.toInt_inj, iI_int hx, iI_int hy]
theorem iL_lt {x y : Int} (hx : -9223372036854775808 ≤ x ∧ x ≤ 9223372036854775807) (hy : -9223372036854775808 ≤ y ∧ y ≤ 9223372036854775807) : iL x < iL y ↔ x < y := by
  rw [Int64.lt_iff_toInt_lt, iL_int hx, iL_int hy]
theorem iL_eq {x y : Int} (hx : -9223372036854775808 ≤ x ∧ x ≤ 9223372036854775807) (hy : -9223372036854775808 ≤ y ∧ y ≤ 9223372036854775807) : iL x = iL y ↔ x = y := by
  rw [← Int64.toInt_inj, iL_int hx, iL_int hy]
theorem iI_0 : iI 0 = 0 := rfl
theorem iI_idx {z n : Int} (h : 0 ≤ z ∧ z < n) (hn : n ≤ 2147483647) : vp_in (iI z) n.toNat ∧ (iI z).toNatClampNeg = z.toNat := by
  have e : (iI z).toInt = z := iI_int (by omega)
  have e2 : (iI z).toNatClampNeg = z.toNat := by
    show (iI z).toInt.toNat = z.toNat
    rw [e]
  refine ⟨vp_in_iff.mpr ?_, e2⟩
  rw [e]
  omega
-- bit operations, as numbers
def zand (x y : Int) : Int := (iI x &&& iI y).toInt
def zor (x y : Int) : Int := (iI x ||| iI y).toInt
def zxor (x y : Int) : Int := (iI x ^^^ iI y).toInt
def zshl (x y : Int) : Int := (iI x <<< (iI y &&& 31)).toInt
def zshr (x y : Int) : Int := (iI x >>> (iI y &&& 31)).toInt
def zush (x y : Int) : Int := ((iI x).toUInt32 >>> ((iI y).toUInt32 &&& Int32.toUInt32 31)).toInt32.toInt
def zor64 (x y : Int) : Int := (iL x ||| iL y).toInt
def zand64 (x y : Int) : Int := (iL x &&& iL y).toInt
def zshl64 (x y : Int) : Int := (iL x <<< ((iI y).toInt64 &&& 63)).toInt
def zshr64 (x y : Int) : Int := (iL x >>> ((iI y).toInt64 &&& 63)).toInt
def zcmp (x y : Int) : Int := if x < y then -1 else if x = y then 0 else 1
-- ===== heaps =====
/-- how many cells; what each is (class number, or 100 + kind of array, with its length); ints, longs, references by cell and place -/
abbrev ph : Type := Nat × (Nat → Nat × Int) × (Nat → Int → Int) × (Nat → Int → Int) × (Nat → Int → Option Nat)
abbrev hN (h : ph) : Nat := h.1
abbrev hK (h : ph) : Nat → Nat × Int := h.2.1
abbrev hI (h : ph) : Nat → Int → Int := h.2.2.1
abbrev hJ (h : ph) : Nat → Int → Int := h.2.2.2.1
abbrev hR (h : ph) : Nat → Int → Option Nat := h.2.2.2.2
def u1 {α : Type} (f : Int → α) (i : Int) (v : α) : Int → α := fun j => if j = i then v else f j
def u2 {α : Type} (f : Nat → α) (q : Nat) (v : α) : Nat → α := fun j => if j = q then v else f j
def sA (h : ph) (q : Nat) (f : Int → Int) : ph := (h.1, h.2.1, u2 h.2.2.1 q f, h.2.2.2.1, h.2.2.2.2)
def sLA (h : ph) (q : Nat) (f : Int → Int) : ph := (h.1, h.2.1, h.2.2.1, u2 h.2.2.2.1 q f, h.2.2.2.2)
def sRA (h : ph) (q : Nat) (f : Int → Option Nat) : ph := (h.1, h.2.1, h.2.2.1, h.2.2.2.1, u2 h.2.2.2.2 q f)
def sI (h : ph) (q : Nat) (i v : Int) : ph := sA h q (u1 (hI h q) i v)
def sL (h : ph) (q : Nat) (i v : Int) : ph := sLA h q (u1 (hJ h q) i v)
def sR (h : ph) (q : Nat) (i : Int) (v : Option Nat) : ph := sRA h q (u1 (hR h q) i v)
/-- one cell more, all of it 0 or null -/
def sNew (h : ph) (k : Nat × Int) : ph := (h.1 + 1, u2 h.2.1 h.1 k, u2 h.2.2.1 h.1 (fun _ => 0), u2 h.2.2.2.1 h.1 (fun _ => 0), u2 h.2.2.2.2 h.1 (fun _ => none))
theorem u1_s {α : Type} (f : Int → α) (i : Int) (v : α) : u1 f i v i = v := if_pos rfl
theorem u1_n {α : Type} (f : Int → α) {i j : Int} (v : α) (h : j ≠ i) : u1 f i v j = f j := if_neg h
theorem u2_s {α : Type} (f : Nat → α) (q : Nat) (v : α) : u2 f q v q = v := if_pos rfl
theorem u2_n {α : Type} (f : Nat → α) {q j : Nat} (v : α) (h : j ≠ q) : u2 f q v j = f j := if_neg h
theorem u2_u2 {α : Type} (f : Nat → α) (q : Nat) (v w : α) : u2 (u2 f q v) q w = u2 f q w := by
  funext j
  by_cases h : j = q <;> simp [u2, h]
theorem hI_sA_s (h : ph) (q : Nat) (f : Int → Int) : hI (sA h q f) q = f := u2_s _ _ _
theorem hI_sA_n (h : ph) {q j : Nat} (f : Int → Int) (hj : j ≠ q) : hI (sA h q f) j = hI h j := u2_n _ _ hj
theorem hI_sI_s (h : ph) (q : Nat) (i v : Int) : hI (sI h q i v) q = u1 (hI h q) i v := u2_s _ _ _
theorem hI_sI_n (h : ph) {q j : Nat} (i v : Int) (hj : j ≠ q) : hI (sI h q i v) j = hI h j := u2_n _ _ hj
theorem hJ_sL_s (h : ph) (q : Nat) (i v : Int) : hJ (sL h q i v) q = u1 (hJ h q) i v := u2_s _ _ _
theorem hJ_sL_n (h : ph) {q j : Nat} (i v : Int) (hj : j ≠ q) : hJ (sL h q i v) j = hJ h j := u2_n _ _ hj
theorem hR_sR_s (h : ph) (q : Nat) (i : Int) (v : Option Nat) : hR (sR h q i v) q = u1 (hR h q) i v := u2_s _ _ _
theorem hR_sR_n (h : ph) {q j : Nat} (i : Int) (v : Option Nat) (hj : j ≠ q) : hR (sR h q i v) j = hR h j := u2_n _ _ hj
theorem sA_sA (h : ph) (q : Nat) (f g : Int → Int) : sA (sA h q f) q g = sA h q g := by
  simp [sA, u2_u2]
theorem sA_self (h : ph) (q : Nat) : sA h q (hI h q) = h := by
  obtain ⟨a, b, c, d, e⟩ := h
  have : u2 c q (c q) = c := by
    funext j
    by_cases hj : j = q
    · subst hj; exact u2_s _ _ _
    · exact u2_n _ _ hj
  simp [sA, this]
-- ===== worlds =====
/-- the first address of ours, the classes' numbers and slots, the array classes, the addresses of the static cells -/
abbrev gG : Type := Nat × va_G × (Nat → ClassId) × (Nat → Nat)
abbrev gB (G : gG) : Nat := G.1
abbrev gD (G : gG) : va_G := G.2.1
abbrev gA (G : gG) : Nat → ClassId := G.2.2.1
abbrev gS (G : gG) : Nat → Nat := G.2.2.2
def adr (G : gG) (k : Nat) : Nat := if k < 1000000 then gB G + k else gS G (k - 1000000)
def tv (G : gG) (v : Value) : Value := match v with
  | .ref k => .ref (adr G k)
  | v => v
theorem adr_lt (G : gG) {k : Nat} (h : k < 1000000) : adr G k = gB G + k := if_pos h
def ftag (t : FieldType) : Nat := match t with
  | .int => 0
  | .boolean => 0
  | .long => 1
  | _ => 2
def fv (G : gG) (h : ph) (k t j : Nat) : Value := if t = 0 then vI (hI h k j) else if t = 1 then vL (hJ h k j) else va_rf ((hR h k j).map (adr G))
def ctag (ci j : Nat) : Nat := match clT[ci]? with
  | some t => ftag (t j)
  | none => 0
def cnum (ci : Nat) : Nat := match cl0[ci]? with
  | some r => r.2.2
  | none => 0
def fsE (G : gG) (h : ph) (k ci : Nat) : List Value := (List.range (cnum ci)).map (fun j => fv G h k (ctag ci j) j)
def arE (G : gG) (h : ph) (k t : Nat) : (Nat → Int32) ⊕ (Nat → Int64) ⊕ (Nat → UInt32) ⊕ (Nat → UInt64) ⊕ (Nat → Option Nat) :=
  if t = 0 ∨ t = 2 then .inl (fun j => iI (hI h k j)) else if t = 1 then .inr (.inl (fun j => iL (hJ h k j))) else .inr (.inr (.inr (.inr (fun j => (hR h k j).map (adr G)))))
def cellE (G : gG) (h : ph) (k : Nat) : va_E :=
  if (hK h k).1 < 100 then .inr ((hK h k).1, fsE G h k (hK h k).1) else .inl (gA G ((hK h k).1 - 100), (hK h k).2.toNat, arE G h k ((hK h k).1 - 100))
def wsG (G : gG) (h : ph) : va_W := (List.range (hN h)).map (fun k => (gB G + k, cellE G h k))
def tyG (G : gG) : List (ClassId × FieldType) := [(gA G 0, .int), (gA G 1, .long), (gA G 2, .boolean), (gA G 3, .object "RockingGuard$Script"), (gA G 4, .array .int)]
def Ab (G : gG) : Nat → Prop := fun q => gB G ≤ q
def HR (G : gG) (h : ph) (H : Heap) : Prop := H.size = gB G + hN h ∧ hN h ≤ 1000000 ∧ va_P (gD G) cl0 (wsG G h) H
theorem ws_get (G : gG) (h : ph) {k : Nat} (hk : k < hN h) : (wsG G h)[k]? = some (gB G + k, cellE G h k) := by
  simp [wsG, hk]
theorem ws_len (G : gG) (h : ph) : (wsG G h).length = hN h := by simp [wsG]
theorem ws_D (G : gG) (h : ph) : va_D (Ab G) (wsG G h) := by
  refine ⟨fun i j p q hi hj e => ?_, fun k q hk => ?_⟩
  · have h1 : i < hN h := by rw [← ws_len G h]; exact (List.getElem?_eq_some_iff.mp hi).1
    have h2 : j < hN h := by rw [← ws_len G h]; exact (List.getElem?_eq_some_iff.mp hj).1
    rw [ws_get G h h1] at hi
    rw [ws_get G h h2] at hj
    cases hi; cases hj
    have e' : gB G + i = gB G + j := e
    omega
  · have h1 : k < hN h := by rw [← ws_len G h]; exact (List.getElem?_eq_some_iff.mp hk).1
    rw [ws_get G h h1] at hk
    cases hk
    exact Nat.le_add_right _ _
theorem ws_set (G : gG) {h h' : ph} {k : Nat} {e : va_E} (hn : hN h' = hN h) (hk : k < hN h) (he : cellE G h' k = e) (ho : ∀ j, j ≠ k → cellE G h' j = cellE G h j) : (wsG G h).set k (gB G + k, e) = wsG G h' := by
  apply List.ext_getElem?
  intro j
  by_cases hj : j < hN h
  · rw [ws_get G h' (by rw [hn]; exact hj)]
    by_cases e1 : j = k
    · subst e1
      rw [List.getElem?_set_self (by rw [ws_len]; exact hk), he]
    · rw [List.getElem?_set_ne (fun q => e1 q.symm), ws_get G h hj, ho j e1]
  · rw [List.getElem?_eq_none (by rw [List.length_set, ws_len]; omega), List.getElem?_eq_none (by rw [ws_len, hn]; omega)]
theorem ws_push (G : gG) {h h' : ph} {e : va_E} (hn : hN h' = hN h + 1) (he : cellE G h' (hN h) = e) (ho : ∀ j, j < hN h → cellE G h' j = cellE G h j) : wsG G h ++ [(gB G + hN h, e)] = wsG G h' := by
  unfold wsG
  rw [hn, List.range_succ, List.map_append]
  congr 1
  · apply List.map_congr_left
    intro a ha
    rw [ho a (List.mem_range.mp ha)]
  · simp [he]
theorem cell_sA_n (G : gG) (h : ph) {q j : Nat} (f : Int → Int) (hj : j ≠ q) : cellE G (sA h q f) j = cellE G h j := by
  unfold cellE fsE arE fv
  rw [hI_sA_n h f hj]
  rfl
theorem cell_sLA_n (G : gG) (h : ph) {q j : Nat} (f : Int → Int) (hj : j ≠ q) : cellE G (sLA h q f) j = cellE G h j := by
  have e : hJ (sLA h q f) j = hJ h j := u2_n _ _ hj
  unfold cellE fsE arE fv
  rw [e]
  rfl
theorem cell_sRA_n (G : gG) (h : ph) {q j : Nat} (f : Int → Option Nat) (hj : j ≠ q) : cellE G (sRA h q f) j = cellE G h j := by
  have e : hR (sRA h q f) j = hR h j := u2_n _ _ hj
  unfold cellE fsE arE fv
  rw [e]
  rfl
theorem cell_obj (G : gG) {h : ph} {k ci : Nat} {n : Int} (hk : hK h k = (ci, n)) (hc : ci < 100) : cellE G h k = .inr (ci, fsE G h k ci) := by
  unfold cellE
  rw [hk, if_pos hc]
theorem cell_arr (G : gG) {h : ph} {k t : Nat} {n : Int} (hk : hK h k = (100 + t, n)) : cellE G h k = .inl (gA G t, n.toNat, arE G h k t) := by
  unfold cellE
  rw [hk, if_neg (by simp), Nat.add_sub_cancel_left]
theorem fsE_get (G : gG) (h : ph) (k ci : Nat) {j : Nat} (hj : j < cnum ci) : (fsE G h k ci)[j]? = some (fv G h k (ctag ci j) j) := by
  simp [fsE, hj]
theorem fsE_len (G : gG) (h : ph) (k ci : Nat) : (fsE G h k ci).length = cnum ci := by simp [fsE]
theorem fsE_set (G : gG) {h h' : ph} {k ci j : Nat} {v : Value} (hj : j < cnum ci) (hv : fv G h' k (ctag ci j) j = v) (ho : ∀ i : Nat, i ≠ j → fv G h' k (ctag ci i) i = fv G h k (ctag ci i) i) : (fsE G h k ci).set j v = fsE G h' k ci := by
  apply List.ext_getElem?
  intro i
  by_cases hi : i < cnum ci
  · rw [fsE_get G h' k ci hi]
    by_cases e1 : i = j
    · subst e1
      rw [List.getElem?_set_self (by rw [fsE_len]; exact hj), hv]
    · rw [List.getElem?_set_ne (fun q => e1 q.symm), fsE_get G h k ci hi, ho i e1]
  · rw [List.getElem?_eq_none (by rw [List.length_set, fsE_len]; omega), List.getElem?_eq_none (by rw [fsE_len]; omega)]
