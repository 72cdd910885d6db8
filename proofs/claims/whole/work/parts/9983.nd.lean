-- ===== the start =====
def aI : Int → Int := u1 (u1 (u1 (u1 (fun _ => 0) 13 151) 3 (-1)) 9 3) 12 9
set_option maxRecDepth 20000 in
theorem i167 : hI f11 167 = aI := rfl
set_option maxRecDepth 20000 in
theorem i168 : hI f11 168 = cpR aI (fun _ => 0) 0 3640 := rfl
set_option maxRecDepth 20000 in
theorem i169 : hI f11 169 = fun _ => 0 := rfl
theorem aI_v (i : Int) : aI i = if i = 12 then 9 else if i = 9 then 3 else if i = 3 then -1 else if i = 13 then 151 else 0 := rfl
theorem i168' : hI f11 168 = aI := by
  rw [i168]
  funext i
  unfold cpR
  by_cases q : 0 ≤ i ∧ i < 3640
  · rw [if_pos q]
  · rw [if_neg q, aI_v, if_neg (by omega), if_neg (by omega), if_neg (by omega), if_neg (by omega)]
theorem aI_0 {i : Int} (h : 14 ≤ i) : aI i = 0 := by rw [aI_v, if_neg (by omega), if_neg (by omega), if_neg (by omega), if_neg (by omega)]
theorem nat_all {n : Nat} {P : Int → Prop} (H : ∀ k : Nat, k < n → P (k : Int)) : ∀ i : Int, 0 ≤ i ∧ i < (n : Int) → P i := by
  intro i hi
  obtain ⟨k, rfl⟩ := Int.eq_ofNat_of_zero_le hi.1
  exact H k (by omega)
theorem iT2 : isT f11 2 := by unfold isT Ob Aq Ar; decide +kernel
theorem iT55 : isT f11 55 := by unfold isT Ob Aq Ar; decide +kernel
theorem iT124 : isT f11 124 := by unfold isT Ob Aq Ar; decide +kernel
theorem iP6 : isP6 f11 6 := by
  unfold isP6 Ob Aq Ar
  exact ⟨by decide +kernel, by decide +kernel, nat_all (n := 30) (by decide +kernel)⟩
theorem iP59 : isP6 f11 59 := by
  unfold isP6 Ob Aq Ar
  exact ⟨by decide +kernel, by decide +kernel, nat_all (n := 30) (by decide +kernel)⟩
theorem iD : isD f11 38 ∧ isD f11 42 ∧ isD f11 46 ∧ isD f11 50 ∧ isD f11 91 ∧ isD f11 95 ∧ isD f11 99 ∧ isD f11 103 := by unfold isD Ob Aq Ar; refine ⟨?_, ?_, ?_, ?_, ?_, ?_, ?_, ?_⟩ <;> decide +kernel
theorem iW1 : isW f11 1 := by
  obtain ⟨d1, d2, d3, d4, d5, d6, d7, d8⟩ := iD
  exact ⟨by unfold Ob; decide +kernel, ⟨by decide +kernel, iT2⟩, ⟨by decide +kernel, iP6⟩, ⟨by decide +kernel, d1⟩, ⟨by decide +kernel, d2⟩, ⟨by decide +kernel, d3⟩, ⟨by decide +kernel, d4⟩⟩
theorem iW54 : isW f11 54 := by
  obtain ⟨d1, d2, d3, d4, d5, d6, d7, d8⟩ := iD
  exact ⟨by unfold Ob; decide +kernel, ⟨by decide +kernel, iT55⟩, ⟨by decide +kernel, iP59⟩, ⟨by decide +kernel, d5⟩, ⟨by decide +kernel, d6⟩, ⟨by decide +kernel, d7⟩, ⟨by decide +kernel, d8⟩⟩
theorem iSc : ∀ k : Nat, k < 4 → hR f11 107 (k : Int) = some (134 + 8 * k) := by decide +kernel
theorem iS : isS f11 113 ∧ isS f11 134 ∧ isS f11 142 ∧ isS f11 150 ∧ isS f11 158 := by unfold isS Ob Aq Ar; refine ⟨?_, ?_, ?_, ?_, ?_⟩ <;> decide +kernel
theorem iX : isX f11 0 := by
  refine ⟨by unfold Ob; decide +kernel, ⟨by decide +kernel, iW1⟩, ⟨by decide +kernel, iW54⟩, ⟨by decide +kernel, by unfold Aq Ar; decide +kernel⟩, ⟨by decide +kernel, by unfold isR3 Ob Aq Ar; decide +kernel⟩, ⟨by decide +kernel, by unfold isJ Ob Aq Ar; decide +kernel⟩, ⟨by decide +kernel, iT124⟩, ⟨by decide +kernel, by unfold isE0 Ob Aq Ar; decide +kernel⟩, ⟨by decide +kernel, by unfold isRo Ob Aq Ar; decide +kernel⟩, ?_, ?_⟩
  · refine nat_all (n := 4) (fun k hk => ⟨134 + 8 * k, iSc k hk, ?_⟩)
    unfold sOK
    omega
  · obtain ⟨s1, s2, s3, s4, s5⟩ := iS
    rintro s (h | h | h | h | h) <;> subst h <;> assumption
theorem iM : isM f11 166 := by unfold isM Ob Aq Ar; refine ⟨?_, ?_, ?_, ?_, ?_, ?_, ?_, ?_, ?_, ?_, ?_, ?_, ?_, ?_, ?_, ?_, ?_, ?_, ?_, ?_, ?_, ?_, ?_, ?_, ?_⟩ <;> decide +kernel
def sm0 : smT := fun _ _ wo _ _ => wo
theorem aI_IA : IA aI := by
  refine ⟨by decide, by decide, by decide, by decide, by decide, by decide, by decide, by decide, by decide, by decide, by decide, by decide, by decide, by decide, by decide, ?_, ?_⟩
  · intro x hx
    have : aI 0 = 0 := by decide
    omega
  · intro x hx
    have : aI 1 = 0 := by decide
    omega
theorem iWR (w : Nat) (hw : w = 1 ∨ w = 54) : WR 40 f11 w aI := by
  have a0 : aI 0 = 0 := by decide
  have a1 : aI 1 = 0 := by decide
  have a4 : aI 4 = 0 := by decide
  have a5 : aI 5 = 0 := by decide
  have a6 : aI 6 = 0 := by decide
  have a7 : aI 7 = 0 := by decide
  have a8 : aI 8 = 0 := by decide
  have hm : mSh aI = 0 := by decide
  refine ⟨⟨aI_IA, fun b c hb => by omega, ?_, fun x hx => by omega, ?_, fun x hx => by omega, ?_⟩, ⟨?_, fun i v hi => by omega⟩, ?_, ?_, fun i hi => by omega, ⟨?_, ?_, fun k hk => by omega⟩, ⟨?_, ?_, fun k hk => by omega⟩, ⟨?_, ?_, fun k hk => by omega⟩, ⟨?_, ?_, fun k hk => by omega⟩, ?_, fun x hx => by omega, ⟨fun k hk => by omega, fun k hk => by omega, fun k hk => by omega, fun k hk => by omega⟩, ?_⟩
  · rcases hw with rfl | rfl <;> decide +kernel
  · rw [a0]
    rcases hw with rfl | rfl
    · exact nat_all (n := 8) (P := fun x => hI f11 3 (8 + x) = 0) (by decide +kernel)
    · exact nat_all (n := 8) (P := fun x => hI f11 56 (8 + x) = 0) (by decide +kernel)
  · rw [a1]
    rcases hw with rfl | rfl
    · exact nat_all (n := 6) (P := fun x => hI f11 3 (16 + x) = 0 ∧ hI f11 3 (22 + x) = -1) (by decide +kernel)
    · exact nat_all (n := 6) (P := fun x => hI f11 56 (16 + x) = 0 ∧ hI f11 56 (22 + x) = -1) (by decide +kernel)
  all_goals first | (rcases hw with rfl | rfl <;> decide +kernel) | skip
  intro i hi
  rw [aI_0 (by omega), aI_0 (by omega)]
  omega
theorem iRR : RR f11 0 166 sm0 113 := by
  have a2 : aI 2 = 0 := by decide
  unfold RR
  simp only [Nat.zero_add]
  rw [show 166 + 1 = 167 from rfl, show 166 + 2 = 168 from rfl, show 166 + 3 = 169 from rfl, i167, i168', i169]
  refine ⟨by decide, ⟨iX, iWR 1 (Or.inl rfl), fun t k wo a a' nm _ _ => rfl, fun t ht => ?_⟩, ⟨iWR 54 (Or.inr rfl), by omega⟩, ⟨iM, ?_, ?_, ?_, by decide +kernel⟩, ⟨by decide +kernel, fun j hj => ?_⟩, Or.inl (by decide +kernel), ⟨by decide +kernel, Or.inl rfl, ?_, ?_⟩, fun t ht => by omega⟩
  · have e : scO f11 0 t = none := if_neg (by omega)
    rw [e]
    exact fun k _ wo a nm => rfl
  · rw [show 166 + 1 = 167 from rfl, show 166 + 3 = 169 from rfl, i167, i169, a2]
    refine ⟨fun t ht => ⟨by show (0 : Int) ≤ 0 ∧ (0 : Int) ≤ 24; decide, fun k hk => by show (0 : Int) ≤ 0 ∧ (0 : Int) ≤ 10; decide⟩, fun a hA h2 => ⟨fun t r nm ht hr => Or.inl ⟨Or.inl (by omega), rfl⟩, fun x r nm hx hr => Or.inl ⟨Or.inl (by have := hA.2.2.2.1; omega), rfl⟩, fun b s nm hb hs hn => Or.inl ⟨Or.inl (by have := hA.2.2.2.1; omega), rfl⟩⟩⟩
  · rw [show 166 + 3 = 169 from rfl, i169]
    exact fun t ht k hk => by show ((0 : Int) ≤ 0 ∧ (0 : Int) ≤ 1000) ∧ ((0 : Int) ≤ 0 ∧ (0 : Int) ≤ 1000); decide
  · refine ⟨by decide +kernel, by decide +kernel, ⟨by decide +kernel, fun i hi => ?_⟩, ?_⟩
    · have e4 : hI f11 166 4 = 0 := by decide +kernel
      omega
    · rw [show 166 + 3 = 169 from rfl, i169]
      exact fun t ht k hk => by show ((0 : Int) ≤ 0 ∧ (0 : Int) ≤ 1000) ∧ ((0 : Int) ≤ 0 ∧ (0 : Int) ≤ 1000); decide
  · have e4 : hI f11 166 4 = 0 := by decide +kernel
    omega
  · refine nat_all (n := 4) (fun k hk e => ?_)
    rw [iSc k hk] at e
    have := Option.some.inj e
    omega
  · intro t t' ht ht' e
    obtain ⟨k, rfl⟩ := Int.eq_ofNat_of_zero_le ht.1
    obtain ⟨k', rfl⟩ := Int.eq_ofNat_of_zero_le ht'.1
    have e' : hR f11 107 (k : Int) = hR f11 107 (k' : Int) := e
    rw [iSc k (by omega), iSc k' (by omega)] at e'
    have := Option.some.inj e'
    omega
