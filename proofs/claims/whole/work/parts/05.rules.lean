theorem iI_ne0 {y : Int} (hy : -2147483648 ≤ y ∧ y ≤ 2147483647) (h0 : y ≠ 0) : ¬ iI y = 0 := fun e => h0 ((iI_eq hy (y := 0) (by omega)).mp e)
theorem iL_ne0 {y : Int} (hy : -9223372036854775808 ≤ y ∧ y ≤ 9223372036854775807) (h0 : y ≠ 0) : ¬ iL y = 0 := fun e => h0 ((iL_eq hy (y := 0) (by omega)).mp e)
theorem iI_div {x y : Int} (hx : -2147483648 ≤ x ∧ x ≤ 2147483647) (hy : -2147483648 ≤ y ∧ y ≤ 2147483647) (h1 : y ≠ -1) : iI x / iI y = iI (x.tdiv y) := by
  have hne : iI y ≠ -1 := fun e => h1 ((iI_eq hy (y := -1) (by omega)).mp e)
  rw [← iI_of (iI x / iI y), Int32.toInt_div_of_ne_right _ _ hne, iI_int hx, iI_int hy]
theorem iL_div {x y : Int} (hx : -9223372036854775808 ≤ x ∧ x ≤ 9223372036854775807) (hy : -9223372036854775808 ≤ y ∧ y ≤ 9223372036854775807) (h1 : y ≠ -1) : iL x / iL y = iL (x.tdiv y) := by
  have hne : iL y ≠ -1 := fun e => h1 ((iL_eq hy (y := -1) (by omega)).mp e)
  rw [← iL_of (iL x / iL y), Int64.toInt_div_of_ne_right _ _ hne, iL_int hx, iL_int hy]
theorem iI_rem {x y : Int} (hx : -2147483648 ≤ x ∧ x ≤ 2147483647) (hy : -2147483648 ≤ y ∧ y ≤ 2147483647) (h1 : y ≠ -1) : iI x - iI x / iI y * iI y = iI (x.tmod y) := by
  rw [iI_div hx hy h1, iI_mul, iI_sub, Int.tmod_def, Int.mul_comm]
theorem iL_rem {x y : Int} (hx : -9223372036854775808 ≤ x ∧ x ≤ 9223372036854775807) (hy : -9223372036854775808 ≤ y ∧ y ≤ 9223372036854775807) (h1 : y ≠ -1) : iL x - iL x / iL y * iL y = iL (x.tmod y) := by
  rw [iL_div hx hy h1, iL_mul, iL_sub, Int.tmod_def, Int.mul_comm]
theorem iI_l {x : Int} (hx : -2147483648 ≤ x ∧ x ≤ 2147483647) : (iI x).toInt64 = iL x := by
  rw [← iL_of (iI x).toInt64, Int32.toInt_toInt64, iI_int hx]
theorem iL_cmp {x y : Int} (hx : -9223372036854775808 ≤ x ∧ x ≤ 9223372036854775807) (hy : -9223372036854775808 ≤ y ∧ y ≤ 9223372036854775807) : lg_cmp (iL x) (iL y) = iI (zcmp x y) := by
  unfold lg_cmp zcmp
  have e1 := iL_lt hx hy
  have e2 := iL_lt hy hx
  have e3 := iL_eq hx hy
  by_cases a : x < y
  · have b : ¬ y < x := by omega
    have c : ¬ x = y := by omega
    simp only [e1, e2, e3, a, b, c, if_true, if_false]
    rfl
  · by_cases c : x = y
    · have b : ¬ y < x := by omega
      simp only [e1, e2, e3, a, b, c, if_true, if_false]
      first | rfl | simp [iI_0] | (subst c; simp; rfl)
    · have b : y < x := by omega
      simp only [e1, e2, e3, a, b, c, if_true, if_false]
      rfl
-- ===== what holds in every state: the classes, the nest's links, the statics =====
def stN (j : Nat) : String := ["LAST_NAME", "FIRST_LEAST", "FIRST_MOST", "BETWEEN", "SECOND_MOST"].getD j ""
def stV (j : Nat) : List Int := [[6, 8, 2], [1, 1, 1, 0, 0, 0, 0, 1], [9, 9, 8, 5, 5, 7, 7, 60], [11, -1, -1, 12, -1, -1, 13, -1], [8, 0, 0, 7, 0, 0, 8, 0]].getD j []
def wordsT : String := "wears tires seen horse boy limit mount off oil nail minute shift on to sign beat if then else end or and not meets snow wear rider size tired who rocking "
def wordsB : List Int := [119, 101, 97, 114, 115, 32, 116, 105, 114, 101, 115, 32, 115, 101, 101, 110, 32, 104, 111, 114, 115, 101, 32, 98, 111, 121, 32, 108, 105, 109, 105, 116, 32, 109, 111, 117, 110, 116, 32, 111, 102, 102, 32, 111, 105, 108, 32, 110, 97, 105, 108, 32, 109, 105, 110, 117, 116, 101, 32, 115, 104, 105, 102, 116, 32, 111, 110, 32, 116, 111, 32, 115, 105, 103, 110, 32, 98, 101, 97, 116, 32, 105, 102, 32, 116, 104, 101, 110, 32, 101, 108, 115, 101, 32, 101, 110, 100, 32, 111, 114, 32, 97, 110, 100, 32, 110, 111, 116, 32, 109, 101, 101, 116, 115, 32, 115, 110, 111, 119, 32, 119, 101, 97, 114, 32, 114, 105, 100, 101, 114, 32, 115, 105, 122, 101, 32, 116, 105, 114, 101, 100, 32, 119, 104, 111, 32, 114, 111, 99, 107, 105, 110, 103, 32]
def nestM : List (String × Nat × MethodName × String) := [("RockingGuard", 27, ⟨"RockingGuard$Reader", "<init>", "()V"⟩, "RockingGuard"), ("RockingGuard", 34, ⟨"RockingGuard$Judge", "<init>", "()V"⟩, "RockingGuard"), ("RockingGuard", 48, ⟨"RockingGuard$Ears", "<init>", "()V"⟩, "RockingGuard"), ("RockingGuard", 55, ⟨"RockingGuard$Roster", "<init>", "()V"⟩, "RockingGuard"), ("RockingGuard", 60, ⟨"RockingGuard$Script", "<init>", "()V"⟩, "RockingGuard"), ("RockingGuard", 9, ⟨"RockingGuard$World", "<init>", "()V"⟩, "RockingGuard"), ("RockingGuard$Reader", 39, ⟨"RockingGuard$Script", "<init>", "()V"⟩, "RockingGuard"), ("RockingGuard$Reader", 94, ⟨"RockingGuard", "isWithin", "(III)Z"⟩, "RockingGuard"), ("RockingGuard$Roster", 66, ⟨"RockingGuard", "isWithin", "(III)Z"⟩, "RockingGuard"), ("RockingGuard$Terrace", 35, ⟨"RockingGuard", "isWithin", "(III)Z"⟩, "RockingGuard"), ("RockingGuard$World", 20, ⟨"RockingGuard$Steps", "<init>", "()V"⟩, "RockingGuard")]
def nestF : List (String × Nat × String × String × String × String) := [("RockingGuard$Reader", 155, "RockingGuard", "BETWEEN", "[I", "RockingGuard"), ("RockingGuard$Reader", 158, "RockingGuard", "FIRST_LEAST", "[I", "RockingGuard"), ("RockingGuard$Reader", 161, "RockingGuard", "FIRST_MOST", "[I", "RockingGuard"), ("RockingGuard$Reader", 167, "RockingGuard", "SECOND_MOST", "[I", "RockingGuard"), ("RockingGuard$Reader", 197, "RockingGuard", "LAST_NAME", "[I", "RockingGuard")]
/-- the script's ints -/
def scV (G : gG) (j : Nat) : Int := ((gS G (9 + j) % 4294967296 : Nat) : Int) - 2147483648
def SX (G : gG) (U : State) (H : Heap) : Prop :=
  (∀ j, j < 5 → va_Z "RockingGuard" (stN j) "[I" (.ref (gS G j)) (Ab G) U H ∧ va_T .int (gS G j) (stV j).length (fun i => vI ((stV j).getD i 0)) (Ab G) U H) ∧
  va_Z "java/lang/String" "COMPACT_STRINGS" "Z" (.int 1) (Ab G) U H ∧ va_O "java/lang/String" (gS G 5) (Ab G) U H ∧ va_OF "java/lang/String" "coder" "B" (.int 0) (gS G 5) (Ab G) U H ∧ va_OF "java/lang/String" "value" "[B" (.ref (gS G 6)) (gS G 5) (Ab G) U H ∧ va_T .byte (gS G 6) 154 (fun i => vI (wordsB.getD i 0)) (Ab G) U H ∧ va_Zq "jdk/internal/util/Preconditions" "SIOOBE_FORMATTER" "Ljava/util/function/BiFunction;" (Ab G) U H ∧ va_T .int (gS G 7) (gS G 8) (fun i => vI (scV G i)) (Ab G) U H
theorem SX.moved {G : gG} {u U : State} {H : Heap} (hvm : u.vm.Alike U.vm) (h : SX G u H) : SX G U H :=
  ⟨fun j hj => ⟨(h.1 j hj).1.moved hvm, (h.1 j hj).2.moved hvm⟩, h.2.1.moved hvm, h.2.2.1.moved hvm, h.2.2.2.1.moved hvm, h.2.2.2.2.1.moved hvm, h.2.2.2.2.2.1.moved hvm, h.2.2.2.2.2.2.1.moved hvm, h.2.2.2.2.2.2.2.moved hvm⟩
theorem SX.kept {G : gG} {U : State} {H H1 : Heap} (h : SX G U H) (hq : ∀ a : Nat, a < H.size → ¬ Ab G a → H1[a]? = H[a]?) : SX G U H1 :=
  ⟨fun j hj => ⟨(h.1 j hj).1.kept hq, (h.1 j hj).2.kept hq⟩, h.2.1.kept hq, h.2.2.1.kept hq, h.2.2.2.1.kept hq, h.2.2.2.2.1.kept hq, h.2.2.2.2.2.1.kept hq, h.2.2.2.2.2.2.1.kept hq, h.2.2.2.2.2.2.2.kept hq⟩
/-- the class of arrays of rows of ints -/
def vA2 (G : gG) (U : State) : Prop := ∃ kA : Class, U.vm.classes[gA G 4]? = some kA ∧ kA.kind = .array (gA G 0) (.array .int)
theorem vA2.moved {G : gG} {u U : State} (hvm : u.vm.Alike U.vm) (h : vA2 G u) : vA2 G U := by
  obtain ⟨k, h1, h2⟩ := h
  obtain ⟨k', hk', he⟩ := hvm.2.2 _ _ h1
  exact ⟨k', hk', by rw [he]; exact h2⟩
/-- what the machine's tables say, that no word of tb does -/
def Wv (G : gG) (U : State) : Prop := va_K (gD G) cl0 (tyG G) U ∧ (∀ q ∈ nestM, va_Nw (.methodLinkNest q.1 q.2.1 q.2.2.1 q.2.2.2) U) ∧ (∀ q ∈ nestF, va_Nw (.fieldLinkNest q.1 q.2.1 q.2.2.1 q.2.2.2.1 q.2.2.2.2.1 q.2.2.2.2.2) U) ∧ vk_R "RockingGuard$Reader" 108 wordsT (gS G 5) U ∧ va_AO "RockingGuard$Script" U ∧ vA2 G U
theorem Wv.warm {G : gG} {s U : State} (hW : s.WarmedH U.vm) (h : Wv G s) : Wv G U :=
  ⟨h.1.moved hW.alike, fun q hq => va_Nw.warmM hW (h.2.1 q hq), fun q hq => va_Nw.warmF hW (h.2.2.1 q hq), vk_R.warm hW h.2.2.2.1, va_AO.moved hW.alike h.2.2.2.2.1, h.2.2.2.2.2.moved hW.alike⟩
theorem Wv.same {G : gG} {s U : State} (hv : s.vm = U.vm) (h : Wv G s) : Wv G U := by
  have ha : s.vm.Alike U.vm := by rw [hv]; exact Vm.Alike.refl _
  exact ⟨h.1.moved ha, fun q hq => va_Nw.same rfl hv (h.2.1 q hq), fun q hq => va_Nw.same rfl hv (h.2.2.1 q hq), vk_R.same hv.symm h.2.2.2.1, va_AO.moved ha h.2.2.2.2.1, h.2.2.2.2.2.moved ha⟩
def Wd (G : gG) (U : State) : Prop := Wv G U ∧ SX G U U.heap
/-- a method's start -/
def Pre (G : gG) (h : ph) (U : State) : Prop := HR G h U.heap ∧ Wd G U
/-- a method's end -/
def Qx (G : gG) (Q : Option Value → ph → Prop) : Array Value → State → Outcome → State → Prop := fun _ st oc t => ∃ (r : Option Value) (h' : ph), oc = .returned (r.map (tv G)) ∧ Q r h' ∧ HR G h' t.heap ∧ Wd G t ∧ va_F (Ab G) st t
def rmD (d mc ms : Nat) : Room := { frames := d, cells := mc, slots := ms, locals := 100 * d }
def wsM (μ : MU) : List Cond := .code (mY μ) (mB μ) (mL μ) (mR μ) :: tb
/-- a contract -/
def Ev (G : gG) (l : Launch) (μ : MU) (d mc ms : Nat) (as : List Value) (h : ph) (Q : Option Value → ph → Prop) : Prop :=
  Met l (mY μ) (wsM μ) (rmD d mc ms) (va_Pc (as.map (tv G)) (Pre G h)) (Qx G Q) mc ms (Ab G)
def Ctx (G : gG) (μ : MU) (p : Program) (s : State) (m : MethodId) (args : Array Value) (meth : Method) (c : Code) : Prop :=
  p.tables.exec = Jvm.exec ∧ c.code = mB μ ∧ meth.sig.returnType = mR μ ∧ c.maxLocals = mL μ ∧ s.vm.findClass (mO μ) = some m.cls ∧ (∀ w ∈ tb, w.before args s = true) ∧ meth.locks = false ∧ meth.name = (mY μ).name ∧ Wd G s ∧ gB G ≤ s.heap.size
/-- from here on the method comes to an end with Q: d frames deep at most, mc cells of ms slots at most in all, cb and sb of them yet -/
def Co (G : gG) (l : Launch) (μ : MU) (d mc ms cb sb : Nat) (pc : Nat) (ls : List (Option Value)) (st : List Value) (h : ph) (Q : Option Value → ph → Prop) : Prop :=
  ∀ (p : Program) (e : Env) (s : State) (m : MethodId) (args : Array Value) (below : List Frame) (meth : Method) (c : Code) (H : Heap) (locs : List Loc) (cells slots : Nat) (lsR : Array Slot),
    Ctx G μ p s m args meth c → HR G h H → va_S (Ab G) s.heap H locs → LR G ls lsR (mL μ) → cells + cb ≤ mc → slots + sb ≤ ms →
    W p l e (rmD d mc ms) s m args below meth c H locs cells slots (MQ below (Qx G Q) args s mc ms (Ab G)) (F0 m pc lsR (st.map (tv G)))
theorem ev_of {G : gG} {l : Launch} {μ : MU} {d mc ms : Nat} {as : List Value} {h : ph} {Q : Option Value → ph → Prop} {ls : List (Option Value)} (hp : plainName (mO μ) = true) (hn : (entA as).length ≤ mL μ) (hls : ent as (mL μ) = ls) (k : Co G l μ d mc ms mc ms 0 ls [] h Q) : Ev G l μ d mc ms as h Q := by
  refine Met.ofW (cc := mB μ) (maxL := mL μ) (ret := mR μ) hp rfl ?_
  intro p e s m args below meth c s₁ B hml hv
  obtain ⟨rfl, hH, hWd⟩ := hv
  have hts := atoms_spec (ws := wsM μ) B.pre
  have hown : s.vm.findClass (mO μ) = some m.cls := findClass_of_methodNamed B.named
  have hl := LR.entry G as (n := mL μ) hn
  rw [lg_entry_eq]
  rw [hls] at hl
  refine k p e s m _ below meth c s.heap [] 0 0 _ ⟨B.exec, B.bytes, B.returns, hml, hown, fun w hw => hts w (List.mem_cons_of_mem _ hw), B.notSynchronized, (name_of_methodNamed B.named B.method).1, hWd, ?_⟩ hH va_S.rf hl (by omega) (by omega)
  rw [hH.1]; omega
/-- the instruction at a place -/
def Ins (μ : MU) (pc : Nat) (i : Instr) (n pc' : Nat) : Prop := decode (mB μ) pc = .ok (i, n) ∧ pc' = pc + n
section CO
variable {G : gG} {l : Launch} {μ : MU} {d mc ms cb sb : Nat} {pc pc' : Nat} {ls : List (Option Value)} {st : List Value} {h : ph} {Q : Option Value → ph → Prop}
theorem co_iconst {n : Int} (hd : Ins μ pc (.iconst n) 1 pc') (k : Co G l μ d mc ms cb sb pc' ls (vI n :: st) h Q) : Co G l μ d mc ms cb sb pc ls st h Q := by
  obtain ⟨hd, rfl⟩ := hd
  intro p e s m args below meth c H locs cells slots lsR C hH hS hL hc hs
  exact lv_iconst C.1 C.2.1 hd rfl (k p e s m args below meth c H locs cells slots lsR C hH hS hL hc hs)
theorem co_bipush {n z : Int} (hd : Ins μ pc (.bipush n) 2 pc') (hz : (Int8.ofInt n).toInt32 = iI z) (k : Co G l μ d mc ms cb sb pc' ls (vI z :: st) h Q) : Co G l μ d mc ms cb sb pc ls st h Q := by
  obtain ⟨hd, rfl⟩ := hd
  intro p e s m args below meth c H locs cells slots lsR C hH hS hL hc hs
  exact lv_bipush C.1 C.2.1 hd hz (k p e s m args below meth c H locs cells slots lsR C hH hS hL hc hs)
theorem co_sipush {n z : Int} (hd : Ins μ pc (.sipush n) 3 pc') (hz : (Int16.ofInt n).toInt32 = iI z) (k : Co G l μ d mc ms cb sb pc' ls (vI z :: st) h Q) : Co G l μ d mc ms cb sb pc ls st h Q := by
  obtain ⟨hd, rfl⟩ := hd
  intro p e s m args below meth c H locs cells slots lsR C hH hS hL hc hs
  exact lv_sipush C.1 C.2.1 hd hz (k p e s m args below meth c H locs cells slots lsR C hH hS hL hc hs)
theorem co_lconst {n : Fin 2} {z : Int} (hd : Ins μ pc (.lconst n) 1 pc') (hz : Int64.ofNat (n : Nat) = iL z) (k : Co G l μ d mc ms cb sb pc' ls (vL z :: st) h Q) : Co G l μ d mc ms cb sb pc ls st h Q := by
  obtain ⟨hd, rfl⟩ := hd
  intro p e s m args below meth c H locs cells slots lsR C hH hS hL hc hs
  exact lv_lconst C.1 C.2.1 hd hz (k p e s m args below meth c H locs cells slots lsR C hH hS hL hc hs)
theorem co_null (hd : Ins μ pc (.aconst_null) 1 pc') (k : Co G l μ d mc ms cb sb pc' ls (.null :: st) h Q) : Co G l μ d mc ms cb sb pc ls st h Q := by
  obtain ⟨hd, rfl⟩ := hd
  intro p e s m args below meth c H locs cells slots lsR C hH hS hL hc hs
  exact lv_null C.1 C.2.1 hd (k p e s m args below meth c H locs cells slots lsR C hH hS hL hc hs)
theorem co_iload_n {k9 : Fin 4} {x : Int} (hd : Ins μ pc (.iload_n k9) 1 pc') (hl : ls[(k9 : Nat)]? = some (some (vI x))) (k : Co G l μ d mc ms cb sb pc' ls (vI x :: st) h Q) : Co G l μ d mc ms cb sb pc ls st h Q := by
  obtain ⟨hd, rfl⟩ := hd
  intro p e s m args below meth c H locs cells slots lsR C hH hS hL hc hs
  exact lv_iload_n C.1 C.2.1 hd rfl (hL.at hl) (k p e s m args below meth c H locs cells slots lsR C hH hS hL hc hs)
theorem co_iload {i9 : Nat} {x : Int} (hd : Ins μ pc (.iload i9) 2 pc') (hl : ls[i9]? = some (some (vI x))) (k : Co G l μ d mc ms cb sb pc' ls (vI x :: st) h Q) : Co G l μ d mc ms cb sb pc ls st h Q := by
  obtain ⟨hd, rfl⟩ := hd
  intro p e s m args below meth c H locs cells slots lsR C hH hS hL hc hs
  exact lv_iload C.1 C.2.1 hd (hL.at hl) (k p e s m args below meth c H locs cells slots lsR C hH hS hL hc hs)
theorem co_lload_n {k9 : Fin 4} {x : Int} (hd : Ins μ pc (.lload_n k9) 1 pc') (hl : ls[(k9 : Nat)]? = some (some (vL x))) (k : Co G l μ d mc ms cb sb pc' ls (vL x :: st) h Q) : Co G l μ d mc ms cb sb pc ls st h Q := by
  obtain ⟨hd, rfl⟩ := hd
  intro p e s m args below meth c H locs cells slots lsR C hH hS hL hc hs
  exact lv_lload_n C.1 C.2.1 hd rfl (hL.at hl) (k p e s m args below meth c H locs cells slots lsR C hH hS hL hc hs)
theorem co_lload {i9 : Nat} {x : Int} (hd : Ins μ pc (.lload i9) 2 pc') (hl : ls[i9]? = some (some (vL x))) (k : Co G l μ d mc ms cb sb pc' ls (vL x :: st) h Q) : Co G l μ d mc ms cb sb pc ls st h Q := by
  obtain ⟨hd, rfl⟩ := hd
  intro p e s m args below meth c H locs cells slots lsR C hH hS hL hc hs
  exact lv_lload C.1 C.2.1 hd (hL.at hl) (k p e s m args below meth c H locs cells slots lsR C hH hS hL hc hs)
theorem co_aload_n {k9 : Fin 4} {x : Nat} (hd : Ins μ pc (.aload_n k9) 1 pc') (hl : ls[(k9 : Nat)]? = some (some (.ref x))) (k : Co G l μ d mc ms cb sb pc' ls (.ref x :: st) h Q) : Co G l μ d mc ms cb sb pc ls st h Q := by
  obtain ⟨hd, rfl⟩ := hd
  intro p e s m args below meth c H locs cells slots lsR C hH hS hL hc hs
  exact lv_aload_n C.1 C.2.1 hd rfl (hL.at hl) (k p e s m args below meth c H locs cells slots lsR C hH hS hL hc hs)
theorem co_aload {i9 : Nat} {x : Nat} (hd : Ins μ pc (.aload i9) 2 pc') (hl : ls[i9]? = some (some (.ref x))) (k : Co G l μ d mc ms cb sb pc' ls (.ref x :: st) h Q) : Co G l μ d mc ms cb sb pc ls st h Q := by
  obtain ⟨hd, rfl⟩ := hd
  intro p e s m args below meth c H locs cells slots lsR C hH hS hL hc hs
  exact lv_aload C.1 C.2.1 hd (hL.at hl) (k p e s m args below meth c H locs cells slots lsR C hH hS hL hc hs)
theorem co_aload_nN {k9 : Fin 4} (hd : Ins μ pc (.aload_n k9) 1 pc') (hl : ls[(k9 : Nat)]? = some (some .null)) (k : Co G l μ d mc ms cb sb pc' ls (.null :: st) h Q) : Co G l μ d mc ms cb sb pc ls st h Q := by
  obtain ⟨hd, rfl⟩ := hd
  intro p e s m args below meth c H locs cells slots lsR C hH hS hL hc hs
  exact lv_aload_nN C.1 C.2.1 hd rfl (hL.at hl) (k p e s m args below meth c H locs cells slots lsR C hH hS hL hc hs)
theorem co_istore_n {k9 : Fin 4} {x : Int} {ls' : List (Option Value)} (hd : Ins μ pc (.istore_n k9) 1 pc') (hn : (k9 : Nat) < mL μ) (hls : sto1 ls (k9 : Nat) (vI x) = ls') (k : Co G l μ d mc ms cb sb pc' ls' st h Q) : Co G l μ d mc ms cb sb pc ls (vI x :: st) h Q := by
  obtain ⟨hd, rfl⟩ := hd
  intro p e s m args below meth c H locs cells slots lsR C hH hS hL hc hs
  subst hls
  exact lv_istore_n C.1 C.2.1 hd rfl hL hn rfl (fun lsR2 hL2 => k p e s m args below meth c H locs cells slots lsR2 C hH hS (LR.st1 (ls := ls) (v := vI x) (lsR := lsR) hL2) hc hs)
theorem co_istore {i9 : Nat} {x : Int} {ls' : List (Option Value)} (hd : Ins μ pc (.istore i9) 2 pc') (hn : i9 < mL μ) (hls : sto1 ls i9 (vI x) = ls') (k : Co G l μ d mc ms cb sb pc' ls' st h Q) : Co G l μ d mc ms cb sb pc ls (vI x :: st) h Q := by
  obtain ⟨hd, rfl⟩ := hd
  intro p e s m args below meth c H locs cells slots lsR C hH hS hL hc hs
  subst hls
  exact lv_istore C.1 C.2.1 hd hL hn rfl (fun lsR2 hL2 => k p e s m args below meth c H locs cells slots lsR2 C hH hS (LR.st1 (ls := ls) (v := vI x) (lsR := lsR) hL2) hc hs)
theorem co_lstore_n {k9 : Fin 4} {x : Int} {ls' : List (Option Value)} (hd : Ins μ pc (.lstore_n k9) 1 pc') (hn : (k9 : Nat) + 1 < mL μ) (hls : sto2 ls (k9 : Nat) (vL x) = ls') (k : Co G l μ d mc ms cb sb pc' ls' st h Q) : Co G l μ d mc ms cb sb pc ls (vL x :: st) h Q := by
  obtain ⟨hd, rfl⟩ := hd
  intro p e s m args below meth c H locs cells slots lsR C hH hS hL hc hs
  subst hls
  exact lv_lstore_n C.1 C.2.1 hd rfl hL hn rfl (fun lsR2 hL2 => k p e s m args below meth c H locs cells slots lsR2 C hH hS (LR.st2 (ls := ls) (v := vL x) (lsR := lsR) hL2) hc hs)
theorem co_lstore {i9 : Nat} {x : Int} {ls' : List (Option Value)} (hd : Ins μ pc (.lstore i9) 2 pc') (hn : i9 + 1 < mL μ) (hls : sto2 ls i9 (vL x) = ls') (k : Co G l μ d mc ms cb sb pc' ls' st h Q) : Co G l μ d mc ms cb sb pc ls (vL x :: st) h Q := by
  obtain ⟨hd, rfl⟩ := hd
  intro p e s m args below meth c H locs cells slots lsR C hH hS hL hc hs
  subst hls
  exact lv_lstore C.1 C.2.1 hd hL hn rfl (fun lsR2 hL2 => k p e s m args below meth c H locs cells slots lsR2 C hH hS (LR.st2 (ls := ls) (v := vL x) (lsR := lsR) hL2) hc hs)
theorem co_astore_n {k9 : Fin 4} {x : Nat} {ls' : List (Option Value)} (hd : Ins μ pc (.astore_n k9) 1 pc') (hn : (k9 : Nat) < mL μ) (hls : sto1 ls (k9 : Nat) (.ref x) = ls') (k : Co G l μ d mc ms cb sb pc' ls' st h Q) : Co G l μ d mc ms cb sb pc ls (.ref x :: st) h Q := by
  obtain ⟨hd, rfl⟩ := hd
  intro p e s m args below meth c H locs cells slots lsR C hH hS hL hc hs
  subst hls
  exact lv_astore_n C.1 C.2.1 hd rfl hL hn rfl (fun lsR2 hL2 => k p e s m args below meth c H locs cells slots lsR2 C hH hS (LR.st1 (ls := ls) (v := .ref x) (lsR := lsR) hL2) hc hs)
theorem co_astore {i9 : Nat} {x : Nat} {ls' : List (Option Value)} (hd : Ins μ pc (.astore i9) 2 pc') (hn : i9 < mL μ) (hls : sto1 ls i9 (.ref x) = ls') (k : Co G l μ d mc ms cb sb pc' ls' st h Q) : Co G l μ d mc ms cb sb pc ls (.ref x :: st) h Q := by
  obtain ⟨hd, rfl⟩ := hd
  intro p e s m args below meth c H locs cells slots lsR C hH hS hL hc hs
  subst hls
  exact lv_astore C.1 C.2.1 hd hL hn rfl (fun lsR2 hL2 => k p e s m args below meth c H locs cells slots lsR2 C hH hS (LR.st1 (ls := ls) (v := .ref x) (lsR := lsR) hL2) hc hs)
theorem co_astore_nN {k9 : Fin 4} {ls' : List (Option Value)} (hd : Ins μ pc (.astore_n k9) 1 pc') (hn : (k9 : Nat) < mL μ) (hls : sto1 ls (k9 : Nat) .null = ls') (k : Co G l μ d mc ms cb sb pc' ls' st h Q) : Co G l μ d mc ms cb sb pc ls (.null :: st) h Q := by
  obtain ⟨hd, rfl⟩ := hd
  intro p e s m args below meth c H locs cells slots lsR C hH hS hL hc hs
  subst hls
  exact lv_astore_nN C.1 C.2.1 hd rfl hL hn rfl (fun lsR2 hL2 => k p e s m args below meth c H locs cells slots lsR2 C hH hS (LR.st1 (ls := ls) (v := .null) (lsR := lsR) hL2) hc hs)
theorem co_iinc {i9 : Nat} {n x : Int} {ls' : List (Option Value)} (hd : Ins μ pc (.iinc i9 n) 3 pc') (hl : ls[i9]? = some (some (vI x))) (hn : i9 < mL μ) (hls : sto1 ls i9 (vI (x + n)) = ls') (k : Co G l μ d mc ms cb sb pc' ls' st h Q) : Co G l μ d mc ms cb sb pc ls st h Q := by
  obtain ⟨hd, rfl⟩ := hd
  intro p e s m args below meth c H locs cells slots lsR C hH hS hL hc hs
  subst hls
  obtain ⟨k0, hk0⟩ := List.getElem?_of_mem ((en_mem G ls 0 (i9, vI x)).mpr ⟨i9, vI x, hl, by simp [tv, vI]⟩)
  exact lv_iinc (v := iI (x + n)) C.1 C.2.1 hd hL hk0 (iI_add x n) hn rfl (fun lsR2 hL2 => k p e s m args below meth c H locs cells slots lsR2 C hH hS (LR.st1 (ls := ls) (v := vI (x + n)) (lsR := lsR) hL2) hc hs)
theorem co_iadd {x y : Int} (hd : Ins μ pc (.iadd) 1 pc') (k : Co G l μ d mc ms cb sb pc' ls (vI (x + y) :: st) h Q) : Co G l μ d mc ms cb sb pc ls (vI y :: vI x :: st) h Q := by
  obtain ⟨hd, rfl⟩ := hd
  intro p e s m args below meth c H locs cells slots lsR C hH hS hL hc hs
  refine lv_iadd C.1 C.2.1 hd ?_
  rw [iI_add]
  exact (k p e s m args below meth c H locs cells slots lsR C hH hS hL hc hs)
theorem co_isub {x y : Int} (hd : Ins μ pc (.isub) 1 pc') (k : Co G l μ d mc ms cb sb pc' ls (vI (x - y) :: st) h Q) : Co G l μ d mc ms cb sb pc ls (vI y :: vI x :: st) h Q := by
  obtain ⟨hd, rfl⟩ := hd
  intro p e s m args below meth c H locs cells slots lsR C hH hS hL hc hs
  refine lv_isub C.1 C.2.1 hd ?_
  rw [iI_sub]
  exact (k p e s m args below meth c H locs cells slots lsR C hH hS hL hc hs)
theorem co_imul {x y : Int} (hd : Ins μ pc (.imul) 1 pc') (k : Co G l μ d mc ms cb sb pc' ls (vI (x * y) :: st) h Q) : Co G l μ d mc ms cb sb pc ls (vI y :: vI x :: st) h Q := by
  obtain ⟨hd, rfl⟩ := hd
  intro p e s m args below meth c H locs cells slots lsR C hH hS hL hc hs
  refine lv_imul C.1 C.2.1 hd ?_
  rw [iI_mul]
  exact (k p e s m args below meth c H locs cells slots lsR C hH hS hL hc hs)
theorem co_ladd {x y : Int} (hd : Ins μ pc (.ladd) 1 pc') (k : Co G l μ d mc ms cb sb pc' ls (vL (x + y) :: st) h Q) : Co G l μ d mc ms cb sb pc ls (vL y :: vL x :: st) h Q := by
  obtain ⟨hd, rfl⟩ := hd
  intro p e s m args below meth c H locs cells slots lsR C hH hS hL hc hs
  refine lv_ladd C.1 C.2.1 hd ?_
  rw [iL_add]
  exact (k p e s m args below meth c H locs cells slots lsR C hH hS hL hc hs)
theorem co_lsub {x y : Int} (hd : Ins μ pc (.lsub) 1 pc') (k : Co G l μ d mc ms cb sb pc' ls (vL (x - y) :: st) h Q) : Co G l μ d mc ms cb sb pc ls (vL y :: vL x :: st) h Q := by
  obtain ⟨hd, rfl⟩ := hd
  intro p e s m args below meth c H locs cells slots lsR C hH hS hL hc hs
  refine lv_lsub C.1 C.2.1 hd ?_
  rw [iL_sub]
  exact (k p e s m args below meth c H locs cells slots lsR C hH hS hL hc hs)
theorem co_lmul {x y : Int} (hd : Ins μ pc (.lmul) 1 pc') (k : Co G l μ d mc ms cb sb pc' ls (vL (x * y) :: st) h Q) : Co G l μ d mc ms cb sb pc ls (vL y :: vL x :: st) h Q := by
  obtain ⟨hd, rfl⟩ := hd
  intro p e s m args below meth c H locs cells slots lsR C hH hS hL hc hs
  refine lv_lmul C.1 C.2.1 hd ?_
  rw [iL_mul]
  exact (k p e s m args below meth c H locs cells slots lsR C hH hS hL hc hs)
theorem co_ineg {x : Int} (hd : Ins μ pc (.ineg) 1 pc') (k : Co G l μ d mc ms cb sb pc' ls (vI (-x) :: st) h Q) : Co G l μ d mc ms cb sb pc ls (vI x :: st) h Q := by
  obtain ⟨hd, rfl⟩ := hd
  intro p e s m args below meth c H locs cells slots lsR C hH hS hL hc hs
  refine lv_ineg C.1 C.2.1 hd ?_
  rw [iI_neg]
  exact (k p e s m args below meth c H locs cells slots lsR C hH hS hL hc hs)
theorem co_lneg {x : Int} (hd : Ins μ pc (.lneg) 1 pc') (k : Co G l μ d mc ms cb sb pc' ls (vL (-x) :: st) h Q) : Co G l μ d mc ms cb sb pc ls (vL x :: st) h Q := by
  obtain ⟨hd, rfl⟩ := hd
  intro p e s m args below meth c H locs cells slots lsR C hH hS hL hc hs
  refine lv_lneg C.1 C.2.1 hd ?_
  rw [iL_neg]
  exact (k p e s m args below meth c H locs cells slots lsR C hH hS hL hc hs)
theorem co_iand {x y : Int} (hd : Ins μ pc (.iand) 1 pc') (k : Co G l μ d mc ms cb sb pc' ls (vI (zand x y) :: st) h Q) : Co G l μ d mc ms cb sb pc ls (vI y :: vI x :: st) h Q := by
  obtain ⟨hd, rfl⟩ := hd
  intro p e s m args below meth c H locs cells slots lsR C hH hS hL hc hs
  refine lv_iand C.1 C.2.1 hd ?_
  rw [← iI_of (iI x &&& iI y)]
  exact (k p e s m args below meth c H locs cells slots lsR C hH hS hL hc hs)
theorem co_ior {x y : Int} (hd : Ins μ pc (.ior) 1 pc') (k : Co G l μ d mc ms cb sb pc' ls (vI (zor x y) :: st) h Q) : Co G l μ d mc ms cb sb pc ls (vI y :: vI x :: st) h Q := by
  obtain ⟨hd, rfl⟩ := hd
  intro p e s m args below meth c H locs cells slots lsR C hH hS hL hc hs
  refine lv_ior C.1 C.2.1 hd ?_
  rw [← iI_of (iI x ||| iI y)]
  exact (k p e s m args below meth c H locs cells slots lsR C hH hS hL hc hs)
theorem co_ixor {x y : Int} (hd : Ins μ pc (.ixor) 1 pc') (k : Co G l μ d mc ms cb sb pc' ls (vI (zxor x y) :: st) h Q) : Co G l μ d mc ms cb sb pc ls (vI y :: vI x :: st) h Q := by
  obtain ⟨hd, rfl⟩ := hd
  intro p e s m args below meth c H locs cells slots lsR C hH hS hL hc hs
  refine lv_ixor C.1 C.2.1 hd ?_
  rw [← iI_of (iI x ^^^ iI y)]
  exact (k p e s m args below meth c H locs cells slots lsR C hH hS hL hc hs)
theorem co_ishl {x y : Int} (hd : Ins μ pc (.ishl) 1 pc') (k : Co G l μ d mc ms cb sb pc' ls (vI (zshl x y) :: st) h Q) : Co G l μ d mc ms cb sb pc ls (vI y :: vI x :: st) h Q := by
  obtain ⟨hd, rfl⟩ := hd
  intro p e s m args below meth c H locs cells slots lsR C hH hS hL hc hs
  refine lv_ishl C.1 C.2.1 hd ?_
  rw [← iI_of (iI x <<< (iI y &&& 31))]
  exact (k p e s m args below meth c H locs cells slots lsR C hH hS hL hc hs)
theorem co_ishr {x y : Int} (hd : Ins μ pc (.ishr) 1 pc') (k : Co G l μ d mc ms cb sb pc' ls (vI (zshr x y) :: st) h Q) : Co G l μ d mc ms cb sb pc ls (vI y :: vI x :: st) h Q := by
  obtain ⟨hd, rfl⟩ := hd
  intro p e s m args below meth c H locs cells slots lsR C hH hS hL hc hs
  refine lv_ishr C.1 C.2.1 hd ?_
  rw [← iI_of (iI x >>> (iI y &&& 31))]
  exact (k p e s m args below meth c H locs cells slots lsR C hH hS hL hc hs)
theorem co_iushr {x y : Int} (hd : Ins μ pc (.iushr) 1 pc') (k : Co G l μ d mc ms cb sb pc' ls (vI (zush x y) :: st) h Q) : Co G l μ d mc ms cb sb pc ls (vI y :: vI x :: st) h Q := by
  obtain ⟨hd, rfl⟩ := hd
  intro p e s m args below meth c H locs cells slots lsR C hH hS hL hc hs
  exact lv_iushr C.1 C.2.1 hd (iI_of _).symm (k p e s m args below meth c H locs cells slots lsR C hH hS hL hc hs)
theorem co_lor {x y : Int} (hd : Ins μ pc (.lor) 1 pc') (k : Co G l μ d mc ms cb sb pc' ls (vL (zor64 x y) :: st) h Q) : Co G l μ d mc ms cb sb pc ls (vL y :: vL x :: st) h Q := by
  obtain ⟨hd, rfl⟩ := hd
  intro p e s m args below meth c H locs cells slots lsR C hH hS hL hc hs
  refine lv_lor C.1 C.2.1 hd ?_
  rw [← iL_of (iL x ||| iL y)]
  exact (k p e s m args below meth c H locs cells slots lsR C hH hS hL hc hs)
theorem co_lshl {x y : Int} (hd : Ins μ pc (.lshl) 1 pc') (k : Co G l μ d mc ms cb sb pc' ls (vL (zshl64 x y) :: st) h Q) : Co G l μ d mc ms cb sb pc ls (vI y :: vL x :: st) h Q := by
  obtain ⟨hd, rfl⟩ := hd
  intro p e s m args below meth c H locs cells slots lsR C hH hS hL hc hs
  exact lv_lshl C.1 C.2.1 hd (iL_of _).symm (k p e s m args below meth c H locs cells slots lsR C hH hS hL hc hs)
theorem co_lshr {x y : Int} (hd : Ins μ pc (.lshr) 1 pc') (k : Co G l μ d mc ms cb sb pc' ls (vL (zshr64 x y) :: st) h Q) : Co G l μ d mc ms cb sb pc ls (vI y :: vL x :: st) h Q := by
  obtain ⟨hd, rfl⟩ := hd
  intro p e s m args below meth c H locs cells slots lsR C hH hS hL hc hs
  exact lv_lshr C.1 C.2.1 hd (iL_of _).symm (k p e s m args below meth c H locs cells slots lsR C hH hS hL hc hs)
theorem co_i2l {x : Int} (hd : Ins μ pc (.i2l) 1 pc') (hx : -2147483648 ≤ x ∧ x ≤ 2147483647) (k : Co G l μ d mc ms cb sb pc' ls (vL x :: st) h Q) : Co G l μ d mc ms cb sb pc ls (vI x :: st) h Q := by
  obtain ⟨hd, rfl⟩ := hd
  intro p e s m args below meth c H locs cells slots lsR C hH hS hL hc hs
  exact lv_i2l C.1 C.2.1 hd (iI_l hx) (k p e s m args below meth c H locs cells slots lsR C hH hS hL hc hs)
theorem co_l2i {x : Int} (hd : Ins μ pc (.l2i) 1 pc') (k : Co G l μ d mc ms cb sb pc' ls (vI x :: st) h Q) : Co G l μ d mc ms cb sb pc ls (vL x :: st) h Q := by
  obtain ⟨hd, rfl⟩ := hd
  intro p e s m args below meth c H locs cells slots lsR C hH hS hL hc hs
  exact lv_l2i C.1 C.2.1 hd (Int64.toInt32_ofInt) (k p e s m args below meth c H locs cells slots lsR C hH hS hL hc hs)
theorem co_idiv {x y : Int} (hd : Ins μ pc (.idiv) 1 pc') (hx : -2147483648 ≤ x ∧ x ≤ 2147483647) (hy : -2147483648 ≤ y ∧ y ≤ 2147483647) (h0 : y ≠ 0) (h1 : y ≠ -1) (k : Co G l μ d mc ms cb sb pc' ls (vI (x.tdiv y) :: st) h Q) : Co G l μ d mc ms cb sb pc ls (vI y :: vI x :: st) h Q := by
  obtain ⟨hd, rfl⟩ := hd
  intro p e s m args below meth c H locs cells slots lsR C hH hS hL hc hs
  refine lv_idiv C.1 C.2.1 hd (iI_ne0 hy h0) ?_
  rw [iI_div hx hy h1]
  exact (k p e s m args below meth c H locs cells slots lsR C hH hS hL hc hs)
theorem co_irem {x y : Int} (hd : Ins μ pc (.irem) 1 pc') (hx : -2147483648 ≤ x ∧ x ≤ 2147483647) (hy : -2147483648 ≤ y ∧ y ≤ 2147483647) (h0 : y ≠ 0) (h1 : y ≠ -1) (k : Co G l μ d mc ms cb sb pc' ls (vI (x.tmod y) :: st) h Q) : Co G l μ d mc ms cb sb pc ls (vI y :: vI x :: st) h Q := by
  obtain ⟨hd, rfl⟩ := hd
  intro p e s m args below meth c H locs cells slots lsR C hH hS hL hc hs
  refine lv_irem C.1 C.2.1 hd (iI_ne0 hy h0) ?_
  rw [iI_rem hx hy h1]
  exact (k p e s m args below meth c H locs cells slots lsR C hH hS hL hc hs)
theorem co_ldiv {x y : Int} (hd : Ins μ pc (.ldiv) 1 pc') (hx : -9223372036854775808 ≤ x ∧ x ≤ 9223372036854775807) (hy : -9223372036854775808 ≤ y ∧ y ≤ 9223372036854775807) (h0 : y ≠ 0) (h1 : y ≠ -1) (k : Co G l μ d mc ms cb sb pc' ls (vL (x.tdiv y) :: st) h Q) : Co G l μ d mc ms cb sb pc ls (vL y :: vL x :: st) h Q := by
  obtain ⟨hd, rfl⟩ := hd
  intro p e s m args below meth c H locs cells slots lsR C hH hS hL hc hs
  refine lv_ldiv C.1 C.2.1 hd (iL_ne0 hy h0) ?_
  rw [iL_div hx hy h1]
  exact (k p e s m args below meth c H locs cells slots lsR C hH hS hL hc hs)
theorem co_lrem {x y : Int} (hd : Ins μ pc (.lrem) 1 pc') (hx : -9223372036854775808 ≤ x ∧ x ≤ 9223372036854775807) (hy : -9223372036854775808 ≤ y ∧ y ≤ 9223372036854775807) (h0 : y ≠ 0) (h1 : y ≠ -1) (k : Co G l μ d mc ms cb sb pc' ls (vL (x.tmod y) :: st) h Q) : Co G l μ d mc ms cb sb pc ls (vL y :: vL x :: st) h Q := by
  obtain ⟨hd, rfl⟩ := hd
  intro p e s m args below meth c H locs cells slots lsR C hH hS hL hc hs
  refine lv_lrem C.1 C.2.1 hd (iL_ne0 hy h0) ?_
  rw [iL_rem hx hy h1]
  exact (k p e s m args below meth c H locs cells slots lsR C hH hS hL hc hs)
theorem co_lcmp {x y : Int} (hd : Ins μ pc (.lcmp) 1 pc') (hx : -9223372036854775808 ≤ x ∧ x ≤ 9223372036854775807) (hy : -9223372036854775808 ≤ y ∧ y ≤ 9223372036854775807) (k : Co G l μ d mc ms cb sb pc' ls (vI (zcmp x y) :: st) h Q) : Co G l μ d mc ms cb sb pc ls (vL y :: vL x :: st) h Q := by
  obtain ⟨hd, rfl⟩ := hd
  intro p e s m args below meth c H locs cells slots lsR C hH hS hL hc hs
  refine W.lcmp C.1 C.2.1 hd ?_
  rw [iL_cmp hx hy]
  exact (k p e s m args below meth c H locs cells slots lsR C hH hS hL hc hs)
theorem co_dup {v : Value} (hd : Ins μ pc (.dup) 1 pc') (hv : v.category = 1) (k : Co G l μ d mc ms cb sb pc' ls (v :: v :: st) h Q) : Co G l μ d mc ms cb sb pc ls (v :: st) h Q := by
  obtain ⟨hd, rfl⟩ := hd
  intro p e s m args below meth c H locs cells slots lsR C hH hS hL hc hs
  exact lv_dup C.1 C.2.1 hd ((tv_cat G v).trans hv) (k p e s m args below meth c H locs cells slots lsR C hH hS hL hc hs)
theorem co_pop {v : Value} (hd : Ins μ pc (.pop) 1 pc') (hv : v.category = 1) (k : Co G l μ d mc ms cb sb pc' ls st h Q) : Co G l μ d mc ms cb sb pc ls (v :: st) h Q := by
  obtain ⟨hd, rfl⟩ := hd
  intro p e s m args below meth c H locs cells slots lsR C hH hS hL hc hs
  exact lv_pop C.1 C.2.1 hd ((tv_cat G v).trans hv) (k p e s m args below meth c H locs cells slots lsR C hH hS hL hc hs)
theorem co_dup2 {v w : Value} (hd : Ins μ pc (.dup2) 1 pc') (hv : v.category = 1) (hw : w.category = 1) (k : Co G l μ d mc ms cb sb pc' ls (v :: w :: v :: w :: st) h Q) : Co G l μ d mc ms cb sb pc ls (v :: w :: st) h Q := by
  obtain ⟨hd, rfl⟩ := hd
  intro p e s m args below meth c H locs cells slots lsR C hH hS hL hc hs
  exact lv_dup2_11 C.1 C.2.1 hd ((tv_cat G v).trans hv) ((tv_cat G w).trans hw) (k p e s m args below meth c H locs cells slots lsR C hH hS hL hc hs)
theorem co_goto {off : Int} {tgt : Nat} (hd : Ins μ pc (.goto off) 3 pc') (ht : (pc : Int) + off = (tgt : Int)) (k : Co G l μ d mc ms cb sb tgt ls st h Q) : Co G l μ d mc ms cb sb pc ls st h Q := by
  obtain ⟨hd, rfl⟩ := hd
  intro p e s m args below meth c H locs cells slots lsR C hH hS hL hc hs
  exact lv_goto C.1 C.2.1 hd ht (k p e s m args below meth c H locs cells slots lsR C hH hS hL hc hs)
theorem co_icmp_eq {x y off : Int} {tgt : Nat} (hd : Ins μ pc (.if_icmp .eq off) 3 pc') (ht : (pc : Int) + off = (tgt : Int)) (hx : -2147483648 ≤ x ∧ x ≤ 2147483647) (hy : -2147483648 ≤ y ∧ y ≤ 2147483647) (kt : x = y → Co G l μ d mc ms cb sb tgt ls st h Q) (kf : ¬ x = y → Co G l μ d mc ms cb sb pc' ls st h Q) : Co G l μ d mc ms cb sb pc ls (vI y :: vI x :: st) h Q := by
  obtain ⟨hd, rfl⟩ := hd
  intro p e s m args below meth c H locs cells slots lsR C hH hS hL hc hs
  exact lv_icmp_eq C.1 C.2.1 hd ht (fun q => (kt ((iI_eq hx hy).mp q) p e s m args below meth c H locs cells slots lsR C hH hS hL hc hs)) (fun q => (kf (fun z => q ((iI_eq hx hy).mpr z)) p e s m args below meth c H locs cells slots lsR C hH hS hL hc hs))
theorem co_if_eq {x off : Int} {tgt : Nat} (hd : Ins μ pc (.ifCond .eq off) 3 pc') (ht : (pc : Int) + off = (tgt : Int)) (hx : -2147483648 ≤ x ∧ x ≤ 2147483647) (kt : x = 0 → Co G l μ d mc ms cb sb tgt ls st h Q) (kf : ¬ x = 0 → Co G l μ d mc ms cb sb pc' ls st h Q) : Co G l μ d mc ms cb sb pc ls (vI x :: st) h Q := by
  obtain ⟨hd, rfl⟩ := hd
  intro p e s m args below meth c H locs cells slots lsR C hH hS hL hc hs
  have h0z : -2147483648 ≤ (0 : Int) ∧ (0 : Int) ≤ 2147483647 := by omega
  exact lv_if_eq C.1 C.2.1 hd ht (fun q => (kt ((iI_eq hx h0z).mp q) p e s m args below meth c H locs cells slots lsR C hH hS hL hc hs)) (fun q => (kf (fun z => q ((iI_eq hx h0z).mpr z)) p e s m args below meth c H locs cells slots lsR C hH hS hL hc hs))
theorem co_icmp_ne {x y off : Int} {tgt : Nat} (hd : Ins μ pc (.if_icmp .ne off) 3 pc') (ht : (pc : Int) + off = (tgt : Int)) (hx : -2147483648 ≤ x ∧ x ≤ 2147483647) (hy : -2147483648 ≤ y ∧ y ≤ 2147483647) (kt : ¬ x = y → Co G l μ d mc ms cb sb tgt ls st h Q) (kf : x = y → Co G l μ d mc ms cb sb pc' ls st h Q) : Co G l μ d mc ms cb sb pc ls (vI y :: vI x :: st) h Q := by
  obtain ⟨hd, rfl⟩ := hd
  intro p e s m args below meth c H locs cells slots lsR C hH hS hL hc hs
  exact lv_icmp_ne C.1 C.2.1 hd ht (fun q => (kt (fun z => q ((iI_eq hx hy).mpr z)) p e s m args below meth c H locs cells slots lsR C hH hS hL hc hs)) (fun q => (kf ((iI_eq hx hy).mp q) p e s m args below meth c H locs cells slots lsR C hH hS hL hc hs))
theorem co_if_ne {x off : Int} {tgt : Nat} (hd : Ins μ pc (.ifCond .ne off) 3 pc') (ht : (pc : Int) + off = (tgt : Int)) (hx : -2147483648 ≤ x ∧ x ≤ 2147483647) (kt : ¬ x = 0 → Co G l μ d mc ms cb sb tgt ls st h Q) (kf : x = 0 → Co G l μ d mc ms cb sb pc' ls st h Q) : Co G l μ d mc ms cb sb pc ls (vI x :: st) h Q := by
  obtain ⟨hd, rfl⟩ := hd
  intro p e s m args below meth c H locs cells slots lsR C hH hS hL hc hs
  have h0z : -2147483648 ≤ (0 : Int) ∧ (0 : Int) ≤ 2147483647 := by omega
  exact lv_if_ne C.1 C.2.1 hd ht (fun q => (kt (fun z => q ((iI_eq hx h0z).mpr z)) p e s m args below meth c H locs cells slots lsR C hH hS hL hc hs)) (fun q => (kf ((iI_eq hx h0z).mp q) p e s m args below meth c H locs cells slots lsR C hH hS hL hc hs))
theorem co_icmp_lt {x y off : Int} {tgt : Nat} (hd : Ins μ pc (.if_icmp .lt off) 3 pc') (ht : (pc : Int) + off = (tgt : Int)) (hx : -2147483648 ≤ x ∧ x ≤ 2147483647) (hy : -2147483648 ≤ y ∧ y ≤ 2147483647) (kt : x < y → Co G l μ d mc ms cb sb tgt ls st h Q) (kf : y ≤ x → Co G l μ d mc ms cb sb pc' ls st h Q) : Co G l μ d mc ms cb sb pc ls (vI y :: vI x :: st) h Q := by
  obtain ⟨hd, rfl⟩ := hd
  intro p e s m args below meth c H locs cells slots lsR C hH hS hL hc hs
  exact lv_icmp_lt C.1 C.2.1 hd ht (fun q => (kt ((iI_lt hx hy).mp q) p e s m args below meth c H locs cells slots lsR C hH hS hL hc hs)) (fun q => (kf (by have := mt (iI_lt hx hy).mpr q; omega) p e s m args below meth c H locs cells slots lsR C hH hS hL hc hs))
theorem co_if_lt {x off : Int} {tgt : Nat} (hd : Ins μ pc (.ifCond .lt off) 3 pc') (ht : (pc : Int) + off = (tgt : Int)) (hx : -2147483648 ≤ x ∧ x ≤ 2147483647) (kt : x < 0 → Co G l μ d mc ms cb sb tgt ls st h Q) (kf : 0 ≤ x → Co G l μ d mc ms cb sb pc' ls st h Q) : Co G l μ d mc ms cb sb pc ls (vI x :: st) h Q := by
  obtain ⟨hd, rfl⟩ := hd
  intro p e s m args below meth c H locs cells slots lsR C hH hS hL hc hs
  have h0z : -2147483648 ≤ (0 : Int) ∧ (0 : Int) ≤ 2147483647 := by omega
  exact lv_if_lt C.1 C.2.1 hd ht (fun q => (kt ((iI_lt hx h0z).mp q) p e s m args below meth c H locs cells slots lsR C hH hS hL hc hs)) (fun q => (kf (by have := mt (iI_lt hx h0z).mpr q; omega) p e s m args below meth c H locs cells slots lsR C hH hS hL hc hs))
theorem co_icmp_ge {x y off : Int} {tgt : Nat} (hd : Ins μ pc (.if_icmp .ge off) 3 pc') (ht : (pc : Int) + off = (tgt : Int)) (hx : -2147483648 ≤ x ∧ x ≤ 2147483647) (hy : -2147483648 ≤ y ∧ y ≤ 2147483647) (kt : y ≤ x → Co G l μ d mc ms cb sb tgt ls st h Q) (kf : x < y → Co G l μ d mc ms cb sb pc' ls st h Q) : Co G l μ d mc ms cb sb pc ls (vI y :: vI x :: st) h Q := by
  obtain ⟨hd, rfl⟩ := hd
  intro p e s m args below meth c H locs cells slots lsR C hH hS hL hc hs
  exact lv_icmp_ge C.1 C.2.1 hd ht (fun q => (kt ((iI_le hy hx).mp q) p e s m args below meth c H locs cells slots lsR C hH hS hL hc hs)) (fun q => (kf (by have := mt (iI_le hy hx).mpr q; omega) p e s m args below meth c H locs cells slots lsR C hH hS hL hc hs))
theorem co_if_ge {x off : Int} {tgt : Nat} (hd : Ins μ pc (.ifCond .ge off) 3 pc') (ht : (pc : Int) + off = (tgt : Int)) (hx : -2147483648 ≤ x ∧ x ≤ 2147483647) (kt : 0 ≤ x → Co G l μ d mc ms cb sb tgt ls st h Q) (kf : x < 0 → Co G l μ d mc ms cb sb pc' ls st h Q) : Co G l μ d mc ms cb sb pc ls (vI x :: st) h Q := by
  obtain ⟨hd, rfl⟩ := hd
  intro p e s m args below meth c H locs cells slots lsR C hH hS hL hc hs
  have h0z : -2147483648 ≤ (0 : Int) ∧ (0 : Int) ≤ 2147483647 := by omega
  exact lv_if_ge C.1 C.2.1 hd ht (fun q => (kt ((iI_le h0z hx).mp q) p e s m args below meth c H locs cells slots lsR C hH hS hL hc hs)) (fun q => (kf (by have := mt (iI_le h0z hx).mpr q; omega) p e s m args below meth c H locs cells slots lsR C hH hS hL hc hs))
theorem co_icmp_gt {x y off : Int} {tgt : Nat} (hd : Ins μ pc (.if_icmp .gt off) 3 pc') (ht : (pc : Int) + off = (tgt : Int)) (hx : -2147483648 ≤ x ∧ x ≤ 2147483647) (hy : -2147483648 ≤ y ∧ y ≤ 2147483647) (kt : y < x → Co G l μ d mc ms cb sb tgt ls st h Q) (kf : x ≤ y → Co G l μ d mc ms cb sb pc' ls st h Q) : Co G l μ d mc ms cb sb pc ls (vI y :: vI x :: st) h Q := by
  obtain ⟨hd, rfl⟩ := hd
  intro p e s m args below meth c H locs cells slots lsR C hH hS hL hc hs
  exact lv_icmp_gt C.1 C.2.1 hd ht (fun q => (kt ((iI_lt hy hx).mp q) p e s m args below meth c H locs cells slots lsR C hH hS hL hc hs)) (fun q => (kf (by have := mt (iI_lt hy hx).mpr q; omega) p e s m args below meth c H locs cells slots lsR C hH hS hL hc hs))
theorem co_if_gt {x off : Int} {tgt : Nat} (hd : Ins μ pc (.ifCond .gt off) 3 pc') (ht : (pc : Int) + off = (tgt : Int)) (hx : -2147483648 ≤ x ∧ x ≤ 2147483647) (kt : 0 < x → Co G l μ d mc ms cb sb tgt ls st h Q) (kf : x ≤ 0 → Co G l μ d mc ms cb sb pc' ls st h Q) : Co G l μ d mc ms cb sb pc ls (vI x :: st) h Q := by
  obtain ⟨hd, rfl⟩ := hd
  intro p e s m args below meth c H locs cells slots lsR C hH hS hL hc hs
  have h0z : -2147483648 ≤ (0 : Int) ∧ (0 : Int) ≤ 2147483647 := by omega
  exact lv_if_gt C.1 C.2.1 hd ht (fun q => (kt ((iI_lt h0z hx).mp q) p e s m args below meth c H locs cells slots lsR C hH hS hL hc hs)) (fun q => (kf (by have := mt (iI_lt h0z hx).mpr q; omega) p e s m args below meth c H locs cells slots lsR C hH hS hL hc hs))
theorem co_icmp_le {x y off : Int} {tgt : Nat} (hd : Ins μ pc (.if_icmp .le off) 3 pc') (ht : (pc : Int) + off = (tgt : Int)) (hx : -2147483648 ≤ x ∧ x ≤ 2147483647) (hy : -2147483648 ≤ y ∧ y ≤ 2147483647) (kt : x ≤ y → Co G l μ d mc ms cb sb tgt ls st h Q) (kf : y < x → Co G l μ d mc ms cb sb pc' ls st h Q) : Co G l μ d mc ms cb sb pc ls (vI y :: vI x :: st) h Q := by
  obtain ⟨hd, rfl⟩ := hd
  intro p e s m args below meth c H locs cells slots lsR C hH hS hL hc hs
  exact lv_icmp_le C.1 C.2.1 hd ht (fun q => (kt ((iI_le hx hy).mp q) p e s m args below meth c H locs cells slots lsR C hH hS hL hc hs)) (fun q => (kf (by have := mt (iI_le hx hy).mpr q; omega) p e s m args below meth c H locs cells slots lsR C hH hS hL hc hs))
theorem co_if_le {x off : Int} {tgt : Nat} (hd : Ins μ pc (.ifCond .le off) 3 pc') (ht : (pc : Int) + off = (tgt : Int)) (hx : -2147483648 ≤ x ∧ x ≤ 2147483647) (kt : x ≤ 0 → Co G l μ d mc ms cb sb tgt ls st h Q) (kf : 0 < x → Co G l μ d mc ms cb sb pc' ls st h Q) : Co G l μ d mc ms cb sb pc ls (vI x :: st) h Q := by
  obtain ⟨hd, rfl⟩ := hd
  intro p e s m args below meth c H locs cells slots lsR C hH hS hL hc hs
  have h0z : -2147483648 ≤ (0 : Int) ∧ (0 : Int) ≤ 2147483647 := by omega
  exact lv_if_le C.1 C.2.1 hd ht (fun q => (kt ((iI_le hx h0z).mp q) p e s m args below meth c H locs cells slots lsR C hH hS hL hc hs)) (fun q => (kf (by have := mt (iI_le hx h0z).mpr q; omega) p e s m args below meth c H locs cells slots lsR C hH hS hL hc hs))
theorem co_ifnullR {x : Nat} {off : Int} (hd : Ins μ pc (.ifnull off) 3 pc') (k : Co G l μ d mc ms cb sb pc' ls st h Q) : Co G l μ d mc ms cb sb pc ls (.ref x :: st) h Q := by
  obtain ⟨hd, rfl⟩ := hd
  intro p e s m args below meth c H locs cells slots lsR C hH hS hL hc hs
  exact lv_ifnull C.1 C.2.1 hd (k p e s m args below meth c H locs cells slots lsR C hH hS hL hc hs)
theorem co_ifnonnullR {x : Nat} {off : Int} {tgt : Nat} (hd : Ins μ pc (.ifnonnull off) 3 pc') (ht : (pc : Int) + off = (tgt : Int)) (k : Co G l μ d mc ms cb sb tgt ls st h Q) : Co G l μ d mc ms cb sb pc ls (.ref x :: st) h Q := by
  obtain ⟨hd, rfl⟩ := hd
  intro p e s m args below meth c H locs cells slots lsR C hH hS hL hc hs
  exact lv_ifnonnull C.1 C.2.1 hd ht (k p e s m args below meth c H locs cells slots lsR C hH hS hL hc hs)
theorem co_ifnullN {off : Int} {tgt : Nat} (hd : Ins μ pc (.ifnull off) 3 pc') (ht : (pc : Int) + off = (tgt : Int)) (k : Co G l μ d mc ms cb sb tgt ls st h Q) : Co G l μ d mc ms cb sb pc ls (.null :: st) h Q := by
  obtain ⟨hd, rfl⟩ := hd
  intro p e s m args below meth c H locs cells slots lsR C hH hS hL hc hs
  exact lv_ifnullN C.1 C.2.1 hd ht (k p e s m args below meth c H locs cells slots lsR C hH hS hL hc hs)
theorem co_ifnonnullN {off : Int} (hd : Ins μ pc (.ifnonnull off) 3 pc') (k : Co G l μ d mc ms cb sb pc' ls st h Q) : Co G l μ d mc ms cb sb pc ls (.null :: st) h Q := by
  obtain ⟨hd, rfl⟩ := hd
  intro p e s m args below meth c H locs cells slots lsR C hH hS hL hc hs
  exact lv_ifnonnullN C.1 C.2.1 hd (k p e s m args below meth c H locs cells slots lsR C hH hS hL hc hs)
end CO
