-- ===== the start of the law =====
theorem lt_1 {w : Cond} (h : w ∈ tables_1_1) : w ∈ lw_tbl := List.mem_append_right _ (List.mem_append_left _ h)
theorem lt_2 {w : Cond} (h : w ∈ tables_1_2) : w ∈ lw_tbl := List.mem_append_right _ (List.mem_append_right _ (List.mem_append_left _ h))
theorem lt_3 {w : Cond} (h : w ∈ tables_1_3) : w ∈ lw_tbl := List.mem_append_right _ (List.mem_append_right _ (List.mem_append_right _ (List.mem_append_left _ h)))
def flW : List Cond := flatC (Jvm.Cond.and given_1 narrow_1)
theorem flw_1 : ∀ j : Nat, j < 5 → Cond.arrayOf (.static "RockingGuard" (stN j) "[I") .int ∈ flW := by decide +kernel
theorem flw_2 : ∀ j : Nat, j < 5 → Cond.eq (.length (.static "RockingGuard" (stN j) "[I")) (.int (Int32.ofNat (stV j).length)) ∈ flW := by decide +kernel
theorem flw_3 : ∀ j : Nat, j < 5 → ∀ i : Nat, i < (stV j).length → Cond.eq (.elem (.static "RockingGuard" (stN j) "[I") (.int (Int32.ofNat i))) (.int (iI ((stV j).getD i 0))) ∈ flW := by decide +kernel
theorem flw_4 : ∀ j : Nat, j < 5 → Cond.laysStatic "RockingGuard" (stN j) "[I" ∈ tables_1_3 := by decide +kernel
theorem flw_5 : Cond.exactly (.string "RockingGuard$Reader" 108) "java/lang/String" ∈ flW := by decide +kernel
theorem flw_6 : Cond.eq (.field (.string "RockingGuard$Reader" 108) "java/lang/String" "coder" "B") (.int 0) ∈ flW := by decide +kernel
theorem flw_7 : Cond.arrayOf (.field (.string "RockingGuard$Reader" 108) "java/lang/String" "value" "[B") .byte ∈ flW := by decide +kernel
theorem flw_8 : Cond.eq (.length (.field (.string "RockingGuard$Reader" 108) "java/lang/String" "value" "[B")) (.int (Int32.ofNat 154)) ∈ flW := by decide +kernel
theorem flw_90 : (flW.drop 63).take 154 = (List.range 154).map (fun i => Cond.eq (.elem (.field (.string "RockingGuard$Reader" 108) "java/lang/String" "value" "[B") (.int (Int32.ofNat i))) (.int (iI (wordsB.getD i 0)))) := by decide +kernel
theorem flw_9 (i : Nat) (hi : i < 154) : Cond.eq (.elem (.field (.string "RockingGuard$Reader" 108) "java/lang/String" "value" "[B") (.int (Int32.ofNat i))) (.int (iI (wordsB.getD i 0))) ∈ flW := by
  have h : Cond.eq (.elem (.field (.string "RockingGuard$Reader" 108) "java/lang/String" "value" "[B") (.int (Int32.ofNat i))) (.int (iI (wordsB.getD i 0))) ∈ (flW.drop 63).take 154 := by
    rw [flw_90]
    exact List.mem_map.mpr ⟨i, List.mem_range.mpr hi, rfl⟩
  exact List.mem_of_mem_drop (List.mem_of_mem_take h)
theorem flw_10 : Cond.eq (.static "java/lang/String" "COMPACT_STRINGS" "Z") (.int 1) ∈ flW := by decide +kernel
theorem flw_11 : Cond.isRef (.static "jdk/internal/util/Preconditions" "SIOOBE_FORMATTER" "Ljava/util/function/BiFunction;") ∈ flW := by decide +kernel
theorem flw_12 : ∀ q ∈ nestM, Cond.methodLinkNest q.1 q.2.1 q.2.2.1 q.2.2.2 ∈ lw_tbl := by decide +kernel
theorem flw_13 : ∀ q ∈ nestF, Cond.fieldLinkNest q.1 q.2.1 q.2.2.1 q.2.2.2.1 q.2.2.2.2.1 q.2.2.2.2.2 ∈ lw_tbl := by decide +kernel
theorem flw_14 : Cond.stringRef "RockingGuard$Reader" 108 wordsT ∈ lw_tbl := lt_2 (List.mem_of_getElem? (i := 152) (by decide +kernel))
theorem flw_15 : Cond.arrayOver (.array .int) ∈ lw_tbl := lt_1 (List.mem_of_getElem? (i := 64) (by decide +kernel))
theorem flw_16 : Cond.arrayOver (.object "RockingGuard$Script") ∈ lw_tbl := lt_1 (List.mem_of_getElem? (i := 138) (by decide +kernel))
theorem flw_17 : Cond.laysStatic "java/lang/String" "COMPACT_STRINGS" "Z" ∈ lw_tbl := lt_2 (List.mem_of_getElem? (i := 162) (by decide +kernel))
theorem flw_18 : Cond.laysStatic "jdk/internal/util/Preconditions" "SIOOBE_FORMATTER" "Ljava/util/function/BiFunction;" ∈ lw_tbl := lt_2 (List.mem_of_getElem? (i := 178) (by decide +kernel))
theorem flw_19 : Cond.initialized "RockingGuard" ∈ lw_tbl ∧ Cond.initialized "java/lang/String" ∈ lw_tbl ∧ Cond.initialized "jdk/internal/util/Preconditions" ∈ lw_tbl := ⟨lt_1 (List.mem_of_getElem? (i := 1) (by decide +kernel)), lt_1 (List.mem_of_getElem? (i := 14) (by decide +kernel)), lt_1 (List.mem_of_getElem? (i := 16) (by decide +kernel))⟩
theorem ao_rows {args : Array Value} {s : State} (h : (Cond.arrayOver (.array .int)).before args s = true) : ∃ (comp c : ClassId) (k : Class), s.vm.findClass (FieldType.array .int).toString = some comp ∧ s.vm.classes[c]? = some k ∧ k.kind = .array comp (.array .int) ∧ s.vm.findClass ("[" ++ (FieldType.array .int).toString) = some c := by
  simp only [Cond.before, Cond.holds, Cond.value, beq_iff_eq] at h
  cases hc : s.vm.findClass (FieldType.array .int).toString with
  | none => simp [hc] at h
  | some comp =>
    simp only [hc, Option.bind_some, Option.bind_eq_some_iff, Option.map_eq_some_iff] at h
    obtain ⟨c, hi, k, hk, hb⟩ := h
    obtain ⟨hlt, hp, -⟩ := Array.findIdx?_eq_some_iff_getElem.mp hi
    rw [(Array.getElem?_eq_some_iff.mp hk).2] at hp
    cases hkd : k.kind with
    | array comp2 ty =>
      rw [hkd] at hb hp
      simp at hb hp
      exact ⟨comp, c, k, rfl, hk, by rw [hkd, hp, hb.1], hb.2⟩
    | _ => rw [hkd] at hb; simp at hb
section START
variable {args : Array Value} {s : State}
theorem arrOf {cA comp : ClassId} {kA : Class} {ty : FieldType} (h2 : s.vm.classes[cA]? = some kA) (h3 : kA.kind = .array comp ty) : ArrOfT s cA ty := fun n z => ⟨fun k h => (by cases h), kA, h2, comp, h3⟩
theorem st_K (hts : ∀ w ∈ tb, w.before args s = true) : ∃ D : va_G, ∀ (c : Nat) (q : vw_C), cl0[c]? = some q → u_Kn s q.1 q.2.1 q.2.2 (D.1 c) (D.2 c) := by
  have h0 : ∀ c : Nat, ∃ x : ClassId × (Nat → Nat), ∀ q : vw_C, cl0[c]? = some q → u_Kn s q.1 q.2.1 q.2.2 x.1 x.2 := by
    intro c
    by_cases hc : c < 11
    · rcases (show c = 0 ∨ c = 1 ∨ c = 2 ∨ c = 3 ∨ c = 4 ∨ c = 5 ∨ c = 6 ∨ c = 7 ∨ c = 8 ∨ c = 9 ∨ c = 10 by omega) with rfl | rfl | rfl | rfl | rfl | rfl | rfl | rfl | rfl | rfl | rfl
      · obtain ⟨cC, iS, h⟩ := u_known (n := 3) hts inX0 (hts _ (tb_2 (List.mem_of_getElem? (i := 3) (by decide +kernel)) rfl))
        exact ⟨(cC, iS), fun q hq => by cases Option.some.inj hq; exact h⟩
      · obtain ⟨cC, iS, h⟩ := u_known (n := 2) hts inX1 (hts _ (tb_1 (List.mem_of_getElem? (i := 228) (by decide +kernel)) rfl))
        exact ⟨(cC, iS), fun q hq => by cases Option.some.inj hq; exact h⟩
      · obtain ⟨cC, iS, h⟩ := u_known (n := 12) hts inX3 (hts _ (tb_1 (List.mem_of_getElem? (i := 140) (by decide +kernel)) rfl))
        exact ⟨(cC, iS), fun q hq => by cases Option.some.inj hq; exact h⟩
      · obtain ⟨cC, iS, h⟩ := u_known (n := 2) hts inX4 (hts _ (tb_2 (List.mem_of_getElem? (i := 20) (by decide +kernel)) rfl))
        exact ⟨(cC, iS), fun q hq => by cases Option.some.inj hq; exact h⟩
      · obtain ⟨cC, iS, h⟩ := u_known (n := 9) hts inX5 (hts _ (tb_1 (List.mem_of_getElem? (i := 146) (by decide +kernel)) rfl))
        exact ⟨(cC, iS), fun q hq => by cases Option.some.inj hq; exact h⟩
      · obtain ⟨cC, iS, h⟩ := u_known (n := 3) hts inX6 (hts _ (tb_1 (List.mem_of_getElem? (i := 58) (by decide +kernel)) rfl))
        exact ⟨(cC, iS), fun q hq => by cases Option.some.inj hq; exact h⟩
      · obtain ⟨cC, iS, h⟩ := u_known (n := 4) hts inX7 (hts _ (tb_1 (List.mem_of_getElem? (i := 36) (by decide +kernel)) rfl))
        exact ⟨(cC, iS), fun q hq => by cases Option.some.inj hq; exact h⟩
      · obtain ⟨cC, iS, h⟩ := u_known (n := 5) hts inX8 (hts _ (tb_1 (List.mem_of_getElem? (i := 77) (by decide +kernel)) rfl))
        exact ⟨(cC, iS), fun q hq => by cases Option.some.inj hq; exact h⟩
      · obtain ⟨cC, iS, h⟩ := u_known (n := 8) hts inX9 (hts _ (tb_1 (List.mem_of_getElem? (i := 30) (by decide +kernel)) rfl))
        exact ⟨(cC, iS), fun q hq => by cases Option.some.inj hq; exact h⟩
      · obtain ⟨cC, iS, h⟩ := u_known (n := 8) hts inX10 (hts _ (tb_1 (List.mem_of_getElem? (i := 22) (by decide +kernel)) rfl))
        exact ⟨(cC, iS), fun q hq => by cases Option.some.inj hq; exact h⟩
      · obtain ⟨cC, iS, h⟩ := u_known (n := 29) hts inX11 (hts _ (tb_5 (List.mem_of_getElem? (i := 188) (by decide +kernel)) rfl))
        exact ⟨(cC, iS), fun q hq => by cases Option.some.inj hq; exact h⟩
    · refine ⟨(0, fun _ => 0), fun q hq => ?_⟩
      have := len_of hq
      exact absurd (show c < 11 from this) hc
  obtain ⟨f, hf⟩ := Classical.axiomOfChoice h0
  exact ⟨(fun c => (f c).1, fun c => (f c).2), hf⟩
theorem st_A (hts : ∀ w ∈ lw_tbl, w.before args s = true) (htb : ∀ w ∈ tb, w.before args s = true) : ∃ A : Nat → ClassId, (∀ (k : Nat) (q : ClassId × FieldType), ([(A 0, .int), (A 1, .long), (A 2, .boolean), (A 3, .object "RockingGuard$Script"), (A 4, .array .int)] : List (ClassId × FieldType))[k]? = some q → ArrOfT s q.1 q.2 ∧ va_RA s q.1 q.2) ∧ ∃ kA : Class, s.vm.classes[A 4]? = some kA ∧ kA.kind = .array (A 0) (.array .int) := by
  obtain ⟨c0, k0, p0, f0, g0, d0⟩ := Cond.arrayClass_spec (htb _ aInt)
  obtain ⟨c1, k1, p1, f1, g1, d1⟩ := Cond.arrayClass_spec (htb _ aLong)
  obtain ⟨c2, k2, p2, f2, g2, d2⟩ := Cond.arrayClass_spec (htb _ aBool)
  obtain ⟨p3, c3, k3, q3, -, g3, d3, f3⟩ := Cond.arrayOver_spec (hts _ flw_16)
  obtain ⟨p4, c4, k4, q4, g4, d4, f4⟩ := ao_rows (hts _ flw_15)
  have e0 : p4 = c0 := by
    have h0 : s.vm.findClass (FieldType.array .int).toString = some c0 := f0
    rw [q4] at h0
    exact Option.some.inj h0
  subst e0
  refine ⟨fun k => if k = 0 then p4 else if k = 1 then c1 else if k = 2 then c2 else if k = 3 then c3 else c4, fun k q hq => ?_, k4, g4, d4⟩
  have hk : k < 5 := by have := len_of hq; exact this
  rcases (show k = 0 ∨ k = 1 ∨ k = 2 ∨ k = 3 ∨ k = 4 by omega) with rfl | rfl | rfl | rfl | rfl <;> cases Option.some.inj hq
  · exact ⟨arrOf g0 d0, f0⟩
  · exact ⟨arrOf g1 d1, f1⟩
  · exact ⟨arrOf g2 d2, f2⟩
  · exact ⟨arrOf g3 d3, k3, p3, g3, d3, q3, f3⟩
  · exact ⟨arrOf g4 d4, f4⟩
theorem st_T (hts : ∀ w ∈ lw_tbl, w.before args s = true) (hfl : ∀ w ∈ flW, w.before args s = true) : ∃ t : Nat → Nat, ∀ j : Nat, j < 5 → va_Z "RockingGuard" (stN j) "[I" (.ref (t j)) (fun q => s.heap.size ≤ q) s s.heap ∧ va_T .int (t j) (stV j).length (fun i => vI ((stV j).getD i 0)) (fun q => s.heap.size ≤ q) s s.heap := by
  have h0 : ∀ j : Nat, ∃ t : Nat, j < 5 → va_Z "RockingGuard" (stN j) "[I" (.ref t) (fun q => s.heap.size ≤ q) s s.heap ∧ va_T .int t (stV j).length (fun i => vI ((stV j).getD i 0)) (fun q => s.heap.size ≤ q) s s.heap := by
    intro j
    by_cases hj : j < 5
    · have hA : ∀ a : Nat, a < s.heap.size → ¬ (fun q => s.heap.size ≤ q) a := fun a ha q => absurd ha (Nat.not_lt.mpr q)
      have hlen : (stV j).length < 2 ^ 31 := by
        have : ∀ j : Nat, j < 5 → (stV j).length < 2 ^ 31 := by decide +kernel
        exact this j hj
      obtain ⟨t, ht, hT⟩ := va_Tof (args := args) (f := fun i => vI ((stV j).getD i 0)) (A := fun q => s.heap.size ≤ q) hlen (hfl _ (flw_1 j hj)) (va_eqt (hfl _ (flw_2 j hj))) (fun i hi => va_eqt (hfl _ (flw_3 j hj i hi))) hA
      exact ⟨t, fun _ => ⟨va_Zof (hts _ (lt_3 (flw_4 j hj))) (hts _ flw_19.1) ht hA, hT⟩⟩
    · exact ⟨0, fun h => absurd h hj⟩
  exact Classical.axiomOfChoice h0
end START
