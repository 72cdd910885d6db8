-- ===== the class: the tape split =====
theorem tK_35 {b : Int → Int} {p : Int} (h : b p = 35) : tK b p = 37 := by
  have e : tT b p = 35 := by
    unfold tT
    rw [if_neg (by omega), if_neg (by omega), if_neg (by omega), if_neg (by omega), if_pos (by rw [h]; decide), h]
  unfold tK
  rw [e]
  rfl
theorem tK_43 {b : Int → Int} {p : Int} (h : b p = 43) : tK b p = 38 := by
  have e : tT b p = 43 := by
    unfold tT
    rw [if_neg (by omega), if_neg (by omega), if_neg (by omega), if_neg (by omega), if_pos (by rw [h]; decide), h]
  unfold tK
  rw [e]
  rfl
theorem tK_45 {b : Int → Int} {p : Int} (h : b p = 45) : tK b p = 39 := by
  have e : tT b p = 45 := by
    unfold tT
    rw [if_neg (by omega), if_neg (by omega), if_neg (by omega), if_neg (by omega), if_pos (by rw [h]; decide), h]
  unfold tK
  rw [e]
  rfl
theorem tK_42 {b : Int → Int} {p : Int} (h : b p = 42) : tK b p = 40 := by
  have e : tT b p = 42 := by
    unfold tT
    rw [if_neg (by omega), if_neg (by omega), if_neg (by omega), if_neg (by omega), if_pos (by rw [h]; decide), h]
  unfold tK
  rw [e]
  rfl
theorem tK_47 {b : Int → Int} {p : Int} (h : b p = 47) : tK b p = 41 := by
  have e : tT b p = 47 := by
    unfold tT
    rw [if_neg (by omega), if_neg (by omega), if_neg (by omega), if_neg (by omega), if_pos (by rw [h]; decide), h]
  unfold tK
  rw [e]
  rfl
theorem tK_40 {b : Int → Int} {p : Int} (h : b p = 40) : tK b p = 42 := by
  have e : tT b p = 40 := by
    unfold tT
    rw [if_neg (by omega), if_neg (by omega), if_neg (by omega), if_neg (by omega), if_pos (by rw [h]; decide), h]
  unfold tK
  rw [e]
  rfl
theorem tK_41 {b : Int → Int} {p : Int} (h : b p = 41) : tK b p = 43 := by
  have e : tT b p = 41 := by
    unfold tT
    rw [if_neg (by omega), if_neg (by omega), if_neg (by omega), if_neg (by omega), if_pos (by rw [h]; decide), h]
  unfold tK
  rw [e]
  rfl
theorem tK_59 {b : Int → Int} {p : Int} (h : b p = 59) : tK b p = 44 := by
  have e : tT b p = 59 := by
    unfold tT
    rw [if_neg (by omega), if_neg (by omega), if_neg (by omega), if_neg (by omega), if_pos (by rw [h]; decide), h]
  unfold tK
  rw [e]
  rfl
theorem tK_61 {b : Int → Int} {p : Int} (h : b p = 61) : tK b p = 36 := by
  have e : tT b p = 61 := by
    unfold tT
    rw [if_neg (by omega), if_neg (by omega), if_neg (by omega), if_neg (by omega), if_pos (by rw [h]; decide), h]
  unfold tK
  rw [e]
  rfl
theorem tK_60 {b : Int → Int} {p : Int} (h : b p = 60) : tK b p = if b (p + 1) = 61 then 33 else 32 := by
  by_cases q : b (p + 1) = 61
  · have e : tT b p = 4 := by
      unfold tT
      rw [if_neg (by omega), if_neg (by omega), if_neg (by omega), if_pos (by omega)]
      rw [if_pos h]
    unfold tK
    rw [e, if_pos q]
    rfl
  · have e : tT b p = 60 := by
      unfold tT
      rw [if_neg (by omega), if_neg (by omega), if_neg (by omega), if_neg (by omega), if_pos (by rw [h]; decide), h]
    unfold tK
    rw [e, if_neg q]
    rfl
theorem tK_62 {b : Int → Int} {p : Int} (h : b p = 62) : tK b p = if b (p + 1) = 61 then 35 else 34 := by
  by_cases q : b (p + 1) = 61
  · have e : tT b p = 5 := by
      unfold tT
      rw [if_neg (by omega), if_neg (by omega), if_neg (by omega), if_pos (by omega)]
      rw [if_neg (by omega)]
    unfold tK
    rw [e, if_pos q]
    rfl
  · have e : tT b p = 62 := by
      unfold tT
      rw [if_neg (by omega), if_neg (by omega), if_neg (by omega), if_neg (by omega), if_pos (by rw [h]; decide), h]
    unfold tK
    rw [e, if_neg q]
    rfl
theorem tK_n {b : Int → Int} {p : Int} (h : fgB (b p)) : tK b p = 31 := by
  have e : tT b p = 1 := by
    unfold tT
    rw [if_neg (by omega), if_pos h]
  unfold tK
  rw [e]
  rfl
theorem tK_f {b : Int → Int} {p : Int} (h : b p < 0) : tK b p = 45 := by
  have e : tT b p = 0 := by
    unfold tT
    rw [if_pos h]
  unfold tK
  rw [e]
  rfl
theorem tK_d {b : Int → Int} {p : Int} (h0 : 0 ≤ b p) (h1 : ¬ fgB (b p)) (h2 : ¬ ltB (b p)) (h3 : b p ≠ 35 ∧ b p ≠ 43 ∧ b p ≠ 45 ∧ b p ≠ 42 ∧ b p ≠ 47 ∧ b p ≠ 40 ∧ b p ≠ 41 ∧ b p ≠ 59 ∧ b p ≠ 61 ∧ b p ≠ 60 ∧ b p ≠ 62) : tK b p = 46 := by
  by_cases q : b p = 58
  · have e : tT b p = 58 := by
      unfold tT
      rw [if_neg (by omega), if_neg (by omega), if_neg (by omega), if_neg (by omega), if_pos (by rw [q]; decide), q]
    unfold tK
    rw [e]
    rfl
  · have e : tT b p = 3 := by
      unfold tT
      rw [if_neg (by omega), if_neg h1, if_neg h2, if_neg (by omega), if_neg (fun z => by have := of_decide_eq_true z; omega)]
    unfold tK
    rw [e]
    rfl
theorem tK_31 {b : Int → Int} {p : Int} (h0 : 0 ≤ b p) (h1 : ¬ fgB (b p)) (h2 : ¬ ltB (b p)) : tK b p ≠ 31 := by
  by_cases q : b p ≠ 35 ∧ b p ≠ 43 ∧ b p ≠ 45 ∧ b p ≠ 42 ∧ b p ≠ 47 ∧ b p ≠ 40 ∧ b p ≠ 41 ∧ b p ≠ 59 ∧ b p ≠ 61 ∧ b p ≠ 60 ∧ b p ≠ 62
  · rw [tK_d h0 h1 h2 q]; decide
  · rcases (by omega : b p = 35 ∨ b p = 43 ∨ b p = 45 ∨ b p = 42 ∨ b p = 47 ∨ b p = 40 ∨ b p = 41 ∨ b p = 59 ∨ b p = 61 ∨ b p = 60 ∨ b p = 62) with e | e | e | e | e | e | e | e | e | e | e
    · rw [tK_35 e]; decide
    · rw [tK_43 e]; decide
    · rw [tK_45 e]; decide
    · rw [tK_42 e]; decide
    · rw [tK_47 e]; decide
    · rw [tK_40 e]; decide
    · rw [tK_41 e]; decide
    · rw [tK_59 e]; decide
    · rw [tK_61 e]; decide
    · rw [tK_60 e]; split <;> decide
    · rw [tK_62 e]; split <;> decide
theorem tK_w {b : Int → Int} {p : Int} (h : ltB (b p)) : tK b p ≠ 31 := by
  have e : tT b p = 2 := by
    unfold tT
    rw [if_neg (by omega), if_neg (by omega), if_pos h]
  unfold tK
  rw [e]
  show kW (tW b p) (tRk b p) ≠ 31
  unfold kW
  split
  · omega
  · split <;> decide
/-- a word is known for what it is -/
def WdOK (G : gG) (l : Launch) (o : Nat) (b : Int → Int) (L : Int) : Prop := ∀ (hh : ph) (p : Int), RbC hh o b L → 0 ≤ p ∧ p < L → ltB (b p) → Ev G l mX3_wordAt 4 0 0 [.ref (o + 108), vI p, vI (tE b p)] hh (eI (tK b p) hh)
set_option maxRecDepth 20000 in
theorem ev_X3_kindOf {G : gG} {l : Launch} {h : ph} {o : Nat} {b : Int → Int} {L : Int} {p : Int} (R : RbC h o b L) (hp : 0 ≤ p ∧ p < L) (hw : WdOK G l o b L) : Ev G l mX3_kindOf 5 0 0 [.ref (o + 108), vI p, vI (tE b p)] h (eI (tK b p) h) := by
  obtain ⟨hX, eL, hB, hb⟩ := R
  have hL := hB.1
  have hp0 := hB.2.1 p (by omega)
  have hte := tE_TB hB (p := p) (by omega)
  refine ev_of (ls := [some (.ref (o + 108)), some (vI p), some (vI (tE b p)), none, none]) (by decide +kernel) (Nat.le_of_ble_eq_true rfl) rfl ?_
  refine co_aload_n dX3_kindOf_0 rfl ?_
  refine co_iload_n dX3_kindOf_1 rfl ?_
  refine c_vI dX3_kindOf_2 (ev_X3_byteAt ⟨hX, eL, hB, hb⟩ (i := p) (by omega)) (by decide) hX.R.1 rfl rfl (Nat.le_of_ble_eq_true rfl) ?_
  refine s_istore_n (ls' := [_, _, _, _, _]) dX3_kindOf_5 (Nat.le_of_ble_eq_true rfl) rfl rfl ?_
  refine co_iload_n dX3_kindOf_6 rfl ?_
  refine c_sI dX3_kindOf_7 (ev_X3_isLetter (by omega)) (by decide) rfl rfl (Nat.le_of_ble_eq_true rfl) ?_
  refine co_if_eq (tgt := 20) dX3_kindOf_10 rfl (by first | omega | (split <;> omega)) (fun c10 => ?_) (fun c10 => ?_)
  · refine co_iload_n dX3_kindOf_20 rfl ?_
    refine c_sI dX3_kindOf_21 (ev_X3_isDigit (by omega)) (by decide) rfl rfl (Nat.le_of_ble_eq_true rfl) ?_
    refine co_if_eq (tgt := 30) dX3_kindOf_24 rfl (by first | omega | (split <;> omega)) (fun c24 => ?_) (fun c24 => ?_)
    · refine co_iload_n dX3_kindOf_30 rfl ?_
      refine co_iload_n dX3_kindOf_31 rfl ?_
      refine co_isub dX3_kindOf_32 ?_
      refine co_iconst dX3_kindOf_33 ?_
      refine co_icmp_ne (tgt := 41) dX3_kindOf_34 rfl (by first | omega | (split <;> omega)) (by first | omega | (split <;> omega)) (fun c34 => ?_) (fun c34 => ?_)
      · refine co_iconst dX3_kindOf_41 ?_
        refine s_istore (ls' := [_, _, _, _, _]) dX3_kindOf_42 (Nat.le_of_ble_eq_true rfl) rfl rfl ?_
        refine co_iload_n dX3_kindOf_44 rfl ?_
        refine r_tsw (tgtD := 225) (tgs := [201, 225, 225, 225, 225, 216, 219, 210, 204, 225, 207, 225, 213, 225, 225, 225, 225, 225, 225, 225, 225, 225, 225, 225, 222, 172, 198, 185]) dX3_kindOf_45 (by first | omega | (split <;> omega)) (by decide) (by decide) (by decide) (fun c45 => ?_) (fun j9 t9 ht9 c45 => ?_)
        · refine co_bipush (z := 46) dX3_kindOf_225 rfl ?_
          refine co_ireturn dX3_kindOf_227 rfl ?_
          have n1 : ¬ ltB (b p) := fun z => by rw [if_pos z] at c10; omega
          have n2 : ¬ fgB (b p) := fun z => by rw [if_pos z] at c24; omega
          exact ⟨by rw [tK_d (by omega) n2 n1 (by omega)], rfl⟩
        · rcases (show j9 = 0 ∨ j9 = 1 ∨ j9 = 2 ∨ j9 = 3 ∨ j9 = 4 ∨ j9 = 5 ∨ j9 = 6 ∨ j9 = 7 ∨ j9 = 8 ∨ j9 = 9 ∨ j9 = 10 ∨ j9 = 11 ∨ j9 = 12 ∨ j9 = 13 ∨ j9 = 14 ∨ j9 = 15 ∨ j9 = 16 ∨ j9 = 17 ∨ j9 = 18 ∨ j9 = 19 ∨ j9 = 20 ∨ j9 = 21 ∨ j9 = 22 ∨ j9 = 23 ∨ j9 = 24 ∨ j9 = 25 ∨ j9 = 26 ∨ j9 = 27 by have hl9 := (List.getElem?_eq_some_iff.mp ht9).1; simp at hl9; omega) with rfl | rfl | rfl | rfl | rfl | rfl | rfl | rfl | rfl | rfl | rfl | rfl | rfl | rfl | rfl | rfl | rfl | rfl | rfl | rfl | rfl | rfl | rfl | rfl | rfl | rfl | rfl | rfl
          · obtain rfl : 201 = t9 := by simpa using ht9
            refine co_bipush (z := 37) dX3_kindOf_201 rfl ?_
            refine co_ireturn dX3_kindOf_203 rfl ?_
            have n1 : ¬ ltB (b p) := fun z => by rw [if_pos z] at c10; omega
            have n2 : ¬ fgB (b p) := fun z => by rw [if_pos z] at c24; omega
            exact ⟨by rw [tK_35 (by omega)], rfl⟩
          · obtain rfl : 225 = t9 := by simpa using ht9
            refine co_bipush (z := 46) dX3_kindOf_225 rfl ?_
            refine co_ireturn dX3_kindOf_227 rfl ?_
            have n1 : ¬ ltB (b p) := fun z => by rw [if_pos z] at c10; omega
            have n2 : ¬ fgB (b p) := fun z => by rw [if_pos z] at c24; omega
            exact ⟨by rw [tK_d (by omega) n2 n1 (by omega)], rfl⟩
          · obtain rfl : 225 = t9 := by simpa using ht9
            refine co_bipush (z := 46) dX3_kindOf_225 rfl ?_
            refine co_ireturn dX3_kindOf_227 rfl ?_
            have n1 : ¬ ltB (b p) := fun z => by rw [if_pos z] at c10; omega
            have n2 : ¬ fgB (b p) := fun z => by rw [if_pos z] at c24; omega
            exact ⟨by rw [tK_d (by omega) n2 n1 (by omega)], rfl⟩
          · obtain rfl : 225 = t9 := by simpa using ht9
            refine co_bipush (z := 46) dX3_kindOf_225 rfl ?_
            refine co_ireturn dX3_kindOf_227 rfl ?_
            have n1 : ¬ ltB (b p) := fun z => by rw [if_pos z] at c10; omega
            have n2 : ¬ fgB (b p) := fun z => by rw [if_pos z] at c24; omega
            exact ⟨by rw [tK_d (by omega) n2 n1 (by omega)], rfl⟩
          · obtain rfl : 225 = t9 := by simpa using ht9
            refine co_bipush (z := 46) dX3_kindOf_225 rfl ?_
            refine co_ireturn dX3_kindOf_227 rfl ?_
            have n1 : ¬ ltB (b p) := fun z => by rw [if_pos z] at c10; omega
            have n2 : ¬ fgB (b p) := fun z => by rw [if_pos z] at c24; omega
            exact ⟨by rw [tK_d (by omega) n2 n1 (by omega)], rfl⟩
          · obtain rfl : 216 = t9 := by simpa using ht9
            refine co_bipush (z := 42) dX3_kindOf_216 rfl ?_
            refine co_ireturn dX3_kindOf_218 rfl ?_
            have n1 : ¬ ltB (b p) := fun z => by rw [if_pos z] at c10; omega
            have n2 : ¬ fgB (b p) := fun z => by rw [if_pos z] at c24; omega
            exact ⟨by rw [tK_40 (by omega)], rfl⟩
          · obtain rfl : 219 = t9 := by simpa using ht9
            refine co_bipush (z := 43) dX3_kindOf_219 rfl ?_
            refine co_ireturn dX3_kindOf_221 rfl ?_
            have n1 : ¬ ltB (b p) := fun z => by rw [if_pos z] at c10; omega
            have n2 : ¬ fgB (b p) := fun z => by rw [if_pos z] at c24; omega
            exact ⟨by rw [tK_41 (by omega)], rfl⟩
          · obtain rfl : 210 = t9 := by simpa using ht9
            refine co_bipush (z := 40) dX3_kindOf_210 rfl ?_
            refine co_ireturn dX3_kindOf_212 rfl ?_
            have n1 : ¬ ltB (b p) := fun z => by rw [if_pos z] at c10; omega
            have n2 : ¬ fgB (b p) := fun z => by rw [if_pos z] at c24; omega
            exact ⟨by rw [tK_42 (by omega)], rfl⟩
          · obtain rfl : 204 = t9 := by simpa using ht9
            refine co_bipush (z := 38) dX3_kindOf_204 rfl ?_
            refine co_ireturn dX3_kindOf_206 rfl ?_
            have n1 : ¬ ltB (b p) := fun z => by rw [if_pos z] at c10; omega
            have n2 : ¬ fgB (b p) := fun z => by rw [if_pos z] at c24; omega
            exact ⟨by rw [tK_43 (by omega)], rfl⟩
          · obtain rfl : 225 = t9 := by simpa using ht9
            refine co_bipush (z := 46) dX3_kindOf_225 rfl ?_
            refine co_ireturn dX3_kindOf_227 rfl ?_
            have n1 : ¬ ltB (b p) := fun z => by rw [if_pos z] at c10; omega
            have n2 : ¬ fgB (b p) := fun z => by rw [if_pos z] at c24; omega
            exact ⟨by rw [tK_d (by omega) n2 n1 (by omega)], rfl⟩
          · obtain rfl : 207 = t9 := by simpa using ht9
            refine co_bipush (z := 39) dX3_kindOf_207 rfl ?_
            refine co_ireturn dX3_kindOf_209 rfl ?_
            have n1 : ¬ ltB (b p) := fun z => by rw [if_pos z] at c10; omega
            have n2 : ¬ fgB (b p) := fun z => by rw [if_pos z] at c24; omega
            exact ⟨by rw [tK_45 (by omega)], rfl⟩
          · obtain rfl : 225 = t9 := by simpa using ht9
            refine co_bipush (z := 46) dX3_kindOf_225 rfl ?_
            refine co_ireturn dX3_kindOf_227 rfl ?_
            have n1 : ¬ ltB (b p) := fun z => by rw [if_pos z] at c10; omega
            have n2 : ¬ fgB (b p) := fun z => by rw [if_pos z] at c24; omega
            exact ⟨by rw [tK_d (by omega) n2 n1 (by omega)], rfl⟩
          · obtain rfl : 213 = t9 := by simpa using ht9
            refine co_bipush (z := 41) dX3_kindOf_213 rfl ?_
            refine co_ireturn dX3_kindOf_215 rfl ?_
            have n1 : ¬ ltB (b p) := fun z => by rw [if_pos z] at c10; omega
            have n2 : ¬ fgB (b p) := fun z => by rw [if_pos z] at c24; omega
            exact ⟨by rw [tK_47 (by omega)], rfl⟩
          · obtain rfl : 225 = t9 := by simpa using ht9
            refine co_bipush (z := 46) dX3_kindOf_225 rfl ?_
            refine co_ireturn dX3_kindOf_227 rfl ?_
            have n1 : ¬ ltB (b p) := fun z => by rw [if_pos z] at c10; omega
            have n2 : ¬ fgB (b p) := fun z => by rw [if_pos z] at c24; omega
            exact ⟨by rw [tK_d (by omega) n2 n1 (by omega)], rfl⟩
          · obtain rfl : 225 = t9 := by simpa using ht9
            refine co_bipush (z := 46) dX3_kindOf_225 rfl ?_
            refine co_ireturn dX3_kindOf_227 rfl ?_
            have n1 : ¬ ltB (b p) := fun z => by rw [if_pos z] at c10; omega
            have n2 : ¬ fgB (b p) := fun z => by rw [if_pos z] at c24; omega
            exact ⟨by rw [tK_d (by omega) n2 n1 (by omega)], rfl⟩
          · obtain rfl : 225 = t9 := by simpa using ht9
            refine co_bipush (z := 46) dX3_kindOf_225 rfl ?_
            refine co_ireturn dX3_kindOf_227 rfl ?_
            have n1 : ¬ ltB (b p) := fun z => by rw [if_pos z] at c10; omega
            have n2 : ¬ fgB (b p) := fun z => by rw [if_pos z] at c24; omega
            exact ⟨by rw [tK_d (by omega) n2 n1 (by omega)], rfl⟩
          · obtain rfl : 225 = t9 := by simpa using ht9
            refine co_bipush (z := 46) dX3_kindOf_225 rfl ?_
            refine co_ireturn dX3_kindOf_227 rfl ?_
            have n1 : ¬ ltB (b p) := fun z => by rw [if_pos z] at c10; omega
            have n2 : ¬ fgB (b p) := fun z => by rw [if_pos z] at c24; omega
            exact ⟨by rw [tK_d (by omega) n2 n1 (by omega)], rfl⟩
          · obtain rfl : 225 = t9 := by simpa using ht9
            refine co_bipush (z := 46) dX3_kindOf_225 rfl ?_
            refine co_ireturn dX3_kindOf_227 rfl ?_
            have n1 : ¬ ltB (b p) := fun z => by rw [if_pos z] at c10; omega
            have n2 : ¬ fgB (b p) := fun z => by rw [if_pos z] at c24; omega
            exact ⟨by rw [tK_d (by omega) n2 n1 (by omega)], rfl⟩
          · obtain rfl : 225 = t9 := by simpa using ht9
            refine co_bipush (z := 46) dX3_kindOf_225 rfl ?_
            refine co_ireturn dX3_kindOf_227 rfl ?_
            have n1 : ¬ ltB (b p) := fun z => by rw [if_pos z] at c10; omega
            have n2 : ¬ fgB (b p) := fun z => by rw [if_pos z] at c24; omega
            exact ⟨by rw [tK_d (by omega) n2 n1 (by omega)], rfl⟩
          · obtain rfl : 225 = t9 := by simpa using ht9
            refine co_bipush (z := 46) dX3_kindOf_225 rfl ?_
            refine co_ireturn dX3_kindOf_227 rfl ?_
            have n1 : ¬ ltB (b p) := fun z => by rw [if_pos z] at c10; omega
            have n2 : ¬ fgB (b p) := fun z => by rw [if_pos z] at c24; omega
            exact ⟨by rw [tK_d (by omega) n2 n1 (by omega)], rfl⟩
          · obtain rfl : 225 = t9 := by simpa using ht9
            refine co_bipush (z := 46) dX3_kindOf_225 rfl ?_
            refine co_ireturn dX3_kindOf_227 rfl ?_
            have n1 : ¬ ltB (b p) := fun z => by rw [if_pos z] at c10; omega
            have n2 : ¬ fgB (b p) := fun z => by rw [if_pos z] at c24; omega
            exact ⟨by rw [tK_d (by omega) n2 n1 (by omega)], rfl⟩
          · obtain rfl : 225 = t9 := by simpa using ht9
            refine co_bipush (z := 46) dX3_kindOf_225 rfl ?_
            refine co_ireturn dX3_kindOf_227 rfl ?_
            have n1 : ¬ ltB (b p) := fun z => by rw [if_pos z] at c10; omega
            have n2 : ¬ fgB (b p) := fun z => by rw [if_pos z] at c24; omega
            exact ⟨by rw [tK_d (by omega) n2 n1 (by omega)], rfl⟩
          · obtain rfl : 225 = t9 := by simpa using ht9
            refine co_bipush (z := 46) dX3_kindOf_225 rfl ?_
            refine co_ireturn dX3_kindOf_227 rfl ?_
            have n1 : ¬ ltB (b p) := fun z => by rw [if_pos z] at c10; omega
            have n2 : ¬ fgB (b p) := fun z => by rw [if_pos z] at c24; omega
            exact ⟨by rw [tK_d (by omega) n2 n1 (by omega)], rfl⟩
          · obtain rfl : 225 = t9 := by simpa using ht9
            refine co_bipush (z := 46) dX3_kindOf_225 rfl ?_
            refine co_ireturn dX3_kindOf_227 rfl ?_
            have n1 : ¬ ltB (b p) := fun z => by rw [if_pos z] at c10; omega
            have n2 : ¬ fgB (b p) := fun z => by rw [if_pos z] at c24; omega
            exact ⟨by rw [tK_d (by omega) n2 n1 (by omega)], rfl⟩
          · obtain rfl : 222 = t9 := by simpa using ht9
            refine co_bipush (z := 44) dX3_kindOf_222 rfl ?_
            refine co_ireturn dX3_kindOf_224 rfl ?_
            have n1 : ¬ ltB (b p) := fun z => by rw [if_pos z] at c10; omega
            have n2 : ¬ fgB (b p) := fun z => by rw [if_pos z] at c24; omega
            exact ⟨by rw [tK_59 (by omega)], rfl⟩
          · obtain rfl : 172 = t9 := by simpa using ht9
            refine co_iload dX3_kindOf_172 rfl ?_
            refine co_if_eq (tgt := 182) dX3_kindOf_174 rfl (by first | omega | (split <;> omega)) (fun c174 => ?_) (fun c174 => ?_)
            · refine co_bipush (z := 32) dX3_kindOf_182 rfl ?_
              refine co_ireturn dX3_kindOf_184 rfl ?_
              have n1 : ¬ ltB (b p) := fun z => by rw [if_pos z] at c10; omega
              have n2 : ¬ fgB (b p) := fun z => by rw [if_pos z] at c24; omega
              have et : tE b p = if (b p = 60 ∨ b p = 62) ∧ b (p + 1) = 61 then p + 2 else p + 1 := by unfold tE; rw [if_neg (by omega), if_neg n2, if_neg n1]
              have e2 : b p = 60 := by omega
              have q9 : ¬ b (p + 1) = 61 := by
                by_cases z : b (p + 1) = 61
                · rw [if_pos ⟨by omega, z⟩] at et; first | exact z | (exfalso; omega)
                · rw [if_neg (fun y => z y.2)] at et; first | exact z | (exfalso; omega)
              exact ⟨by rw [tK_60 e2, if_neg q9], rfl⟩
            · refine co_bipush (z := 33) dX3_kindOf_177 rfl ?_
              refine co_goto (tgt := 184) dX3_kindOf_179 rfl ?_
              refine co_ireturn dX3_kindOf_184 rfl ?_
              have n1 : ¬ ltB (b p) := fun z => by rw [if_pos z] at c10; omega
              have n2 : ¬ fgB (b p) := fun z => by rw [if_pos z] at c24; omega
              have et : tE b p = if (b p = 60 ∨ b p = 62) ∧ b (p + 1) = 61 then p + 2 else p + 1 := by unfold tE; rw [if_neg (by omega), if_neg n2, if_neg n1]
              have e2 : b p = 60 := by omega
              have q9 :  b (p + 1) = 61 := by
                by_cases z : b (p + 1) = 61
                · rw [if_pos ⟨by omega, z⟩] at et; first | exact z | (exfalso; omega)
                · rw [if_neg (fun y => z y.2)] at et; first | exact z | (exfalso; omega)
              exact ⟨by rw [tK_60 e2, if_pos q9], rfl⟩
          · obtain rfl : 198 = t9 := by simpa using ht9
            refine co_bipush (z := 36) dX3_kindOf_198 rfl ?_
            refine co_ireturn dX3_kindOf_200 rfl ?_
            have n1 : ¬ ltB (b p) := fun z => by rw [if_pos z] at c10; omega
            have n2 : ¬ fgB (b p) := fun z => by rw [if_pos z] at c24; omega
            exact ⟨by rw [tK_61 (by omega)], rfl⟩
          · obtain rfl : 185 = t9 := by simpa using ht9
            refine co_iload dX3_kindOf_185 rfl ?_
            refine co_if_eq (tgt := 195) dX3_kindOf_187 rfl (by first | omega | (split <;> omega)) (fun c187 => ?_) (fun c187 => ?_)
            · refine co_bipush (z := 34) dX3_kindOf_195 rfl ?_
              refine co_ireturn dX3_kindOf_197 rfl ?_
              have n1 : ¬ ltB (b p) := fun z => by rw [if_pos z] at c10; omega
              have n2 : ¬ fgB (b p) := fun z => by rw [if_pos z] at c24; omega
              have et : tE b p = if (b p = 60 ∨ b p = 62) ∧ b (p + 1) = 61 then p + 2 else p + 1 := by unfold tE; rw [if_neg (by omega), if_neg n2, if_neg n1]
              have e2 : b p = 62 := by omega
              have q9 : ¬ b (p + 1) = 61 := by
                by_cases z : b (p + 1) = 61
                · rw [if_pos ⟨by omega, z⟩] at et; first | exact z | (exfalso; omega)
                · rw [if_neg (fun y => z y.2)] at et; first | exact z | (exfalso; omega)
              exact ⟨by rw [tK_62 e2, if_neg q9], rfl⟩
            · refine co_bipush (z := 35) dX3_kindOf_190 rfl ?_
              refine co_goto (tgt := 197) dX3_kindOf_192 rfl ?_
              refine co_ireturn dX3_kindOf_197 rfl ?_
              have n1 : ¬ ltB (b p) := fun z => by rw [if_pos z] at c10; omega
              have n2 : ¬ fgB (b p) := fun z => by rw [if_pos z] at c24; omega
              have et : tE b p = if (b p = 60 ∨ b p = 62) ∧ b (p + 1) = 61 then p + 2 else p + 1 := by unfold tE; rw [if_neg (by omega), if_neg n2, if_neg n1]
              have e2 : b p = 62 := by omega
              have q9 :  b (p + 1) = 61 := by
                by_cases z : b (p + 1) = 61
                · rw [if_pos ⟨by omega, z⟩] at et; first | exact z | (exfalso; omega)
                · rw [if_neg (fun y => z y.2)] at et; first | exact z | (exfalso; omega)
              exact ⟨by rw [tK_62 e2, if_pos q9], rfl⟩
      · refine co_iconst dX3_kindOf_37 ?_
        refine co_goto (tgt := 42) dX3_kindOf_38 rfl ?_
        refine s_istore (ls' := [_, _, _, _, _]) dX3_kindOf_42 (Nat.le_of_ble_eq_true rfl) rfl rfl ?_
        refine co_iload_n dX3_kindOf_44 rfl ?_
        refine r_tsw (tgtD := 225) (tgs := [201, 225, 225, 225, 225, 216, 219, 210, 204, 225, 207, 225, 213, 225, 225, 225, 225, 225, 225, 225, 225, 225, 225, 225, 222, 172, 198, 185]) dX3_kindOf_45 (by first | omega | (split <;> omega)) (by decide) (by decide) (by decide) (fun c45 => ?_) (fun j9 t9 ht9 c45 => ?_)
        · refine co_bipush (z := 46) dX3_kindOf_225 rfl ?_
          refine co_ireturn dX3_kindOf_227 rfl ?_
          have n1 : ¬ ltB (b p) := fun z => by rw [if_pos z] at c10; omega
          have n2 : ¬ fgB (b p) := fun z => by rw [if_pos z] at c24; omega
          exact ⟨by rw [tK_d (by omega) n2 n1 (by omega)], rfl⟩
        · rcases (show j9 = 0 ∨ j9 = 1 ∨ j9 = 2 ∨ j9 = 3 ∨ j9 = 4 ∨ j9 = 5 ∨ j9 = 6 ∨ j9 = 7 ∨ j9 = 8 ∨ j9 = 9 ∨ j9 = 10 ∨ j9 = 11 ∨ j9 = 12 ∨ j9 = 13 ∨ j9 = 14 ∨ j9 = 15 ∨ j9 = 16 ∨ j9 = 17 ∨ j9 = 18 ∨ j9 = 19 ∨ j9 = 20 ∨ j9 = 21 ∨ j9 = 22 ∨ j9 = 23 ∨ j9 = 24 ∨ j9 = 25 ∨ j9 = 26 ∨ j9 = 27 by have hl9 := (List.getElem?_eq_some_iff.mp ht9).1; simp at hl9; omega) with rfl | rfl | rfl | rfl | rfl | rfl | rfl | rfl | rfl | rfl | rfl | rfl | rfl | rfl | rfl | rfl | rfl | rfl | rfl | rfl | rfl | rfl | rfl | rfl | rfl | rfl | rfl | rfl
          · obtain rfl : 201 = t9 := by simpa using ht9
            refine co_bipush (z := 37) dX3_kindOf_201 rfl ?_
            refine co_ireturn dX3_kindOf_203 rfl ?_
            have n1 : ¬ ltB (b p) := fun z => by rw [if_pos z] at c10; omega
            have n2 : ¬ fgB (b p) := fun z => by rw [if_pos z] at c24; omega
            exact ⟨by rw [tK_35 (by omega)], rfl⟩
          · obtain rfl : 225 = t9 := by simpa using ht9
            refine co_bipush (z := 46) dX3_kindOf_225 rfl ?_
            refine co_ireturn dX3_kindOf_227 rfl ?_
            have n1 : ¬ ltB (b p) := fun z => by rw [if_pos z] at c10; omega
            have n2 : ¬ fgB (b p) := fun z => by rw [if_pos z] at c24; omega
            exact ⟨by rw [tK_d (by omega) n2 n1 (by omega)], rfl⟩
          · obtain rfl : 225 = t9 := by simpa using ht9
            refine co_bipush (z := 46) dX3_kindOf_225 rfl ?_
            refine co_ireturn dX3_kindOf_227 rfl ?_
            have n1 : ¬ ltB (b p) := fun z => by rw [if_pos z] at c10; omega
            have n2 : ¬ fgB (b p) := fun z => by rw [if_pos z] at c24; omega
            exact ⟨by rw [tK_d (by omega) n2 n1 (by omega)], rfl⟩
          · obtain rfl : 225 = t9 := by simpa using ht9
            refine co_bipush (z := 46) dX3_kindOf_225 rfl ?_
            refine co_ireturn dX3_kindOf_227 rfl ?_
            have n1 : ¬ ltB (b p) := fun z => by rw [if_pos z] at c10; omega
            have n2 : ¬ fgB (b p) := fun z => by rw [if_pos z] at c24; omega
            exact ⟨by rw [tK_d (by omega) n2 n1 (by omega)], rfl⟩
          · obtain rfl : 225 = t9 := by simpa using ht9
            refine co_bipush (z := 46) dX3_kindOf_225 rfl ?_
            refine co_ireturn dX3_kindOf_227 rfl ?_
            have n1 : ¬ ltB (b p) := fun z => by rw [if_pos z] at c10; omega
            have n2 : ¬ fgB (b p) := fun z => by rw [if_pos z] at c24; omega
            exact ⟨by rw [tK_d (by omega) n2 n1 (by omega)], rfl⟩
          · obtain rfl : 216 = t9 := by simpa using ht9
            refine co_bipush (z := 42) dX3_kindOf_216 rfl ?_
            refine co_ireturn dX3_kindOf_218 rfl ?_
            have n1 : ¬ ltB (b p) := fun z => by rw [if_pos z] at c10; omega
            have n2 : ¬ fgB (b p) := fun z => by rw [if_pos z] at c24; omega
            exact ⟨by rw [tK_40 (by omega)], rfl⟩
          · obtain rfl : 219 = t9 := by simpa using ht9
            refine co_bipush (z := 43) dX3_kindOf_219 rfl ?_
            refine co_ireturn dX3_kindOf_221 rfl ?_
            have n1 : ¬ ltB (b p) := fun z => by rw [if_pos z] at c10; omega
            have n2 : ¬ fgB (b p) := fun z => by rw [if_pos z] at c24; omega
            exact ⟨by rw [tK_41 (by omega)], rfl⟩
          · obtain rfl : 210 = t9 := by simpa using ht9
            refine co_bipush (z := 40) dX3_kindOf_210 rfl ?_
            refine co_ireturn dX3_kindOf_212 rfl ?_
            have n1 : ¬ ltB (b p) := fun z => by rw [if_pos z] at c10; omega
            have n2 : ¬ fgB (b p) := fun z => by rw [if_pos z] at c24; omega
            exact ⟨by rw [tK_42 (by omega)], rfl⟩
          · obtain rfl : 204 = t9 := by simpa using ht9
            refine co_bipush (z := 38) dX3_kindOf_204 rfl ?_
            refine co_ireturn dX3_kindOf_206 rfl ?_
            have n1 : ¬ ltB (b p) := fun z => by rw [if_pos z] at c10; omega
            have n2 : ¬ fgB (b p) := fun z => by rw [if_pos z] at c24; omega
            exact ⟨by rw [tK_43 (by omega)], rfl⟩
          · obtain rfl : 225 = t9 := by simpa using ht9
            refine co_bipush (z := 46) dX3_kindOf_225 rfl ?_
            refine co_ireturn dX3_kindOf_227 rfl ?_
            have n1 : ¬ ltB (b p) := fun z => by rw [if_pos z] at c10; omega
            have n2 : ¬ fgB (b p) := fun z => by rw [if_pos z] at c24; omega
            exact ⟨by rw [tK_d (by omega) n2 n1 (by omega)], rfl⟩
          · obtain rfl : 207 = t9 := by simpa using ht9
            refine co_bipush (z := 39) dX3_kindOf_207 rfl ?_
            refine co_ireturn dX3_kindOf_209 rfl ?_
            have n1 : ¬ ltB (b p) := fun z => by rw [if_pos z] at c10; omega
            have n2 : ¬ fgB (b p) := fun z => by rw [if_pos z] at c24; omega
            exact ⟨by rw [tK_45 (by omega)], rfl⟩
          · obtain rfl : 225 = t9 := by simpa using ht9
            refine co_bipush (z := 46) dX3_kindOf_225 rfl ?_
            refine co_ireturn dX3_kindOf_227 rfl ?_
            have n1 : ¬ ltB (b p) := fun z => by rw [if_pos z] at c10; omega
            have n2 : ¬ fgB (b p) := fun z => by rw [if_pos z] at c24; omega
            exact ⟨by rw [tK_d (by omega) n2 n1 (by omega)], rfl⟩
          · obtain rfl : 213 = t9 := by simpa using ht9
            refine co_bipush (z := 41) dX3_kindOf_213 rfl ?_
            refine co_ireturn dX3_kindOf_215 rfl ?_
            have n1 : ¬ ltB (b p) := fun z => by rw [if_pos z] at c10; omega
            have n2 : ¬ fgB (b p) := fun z => by rw [if_pos z] at c24; omega
            exact ⟨by rw [tK_47 (by omega)], rfl⟩
          · obtain rfl : 225 = t9 := by simpa using ht9
            refine co_bipush (z := 46) dX3_kindOf_225 rfl ?_
            refine co_ireturn dX3_kindOf_227 rfl ?_
            have n1 : ¬ ltB (b p) := fun z => by rw [if_pos z] at c10; omega
            have n2 : ¬ fgB (b p) := fun z => by rw [if_pos z] at c24; omega
            exact ⟨by rw [tK_d (by omega) n2 n1 (by omega)], rfl⟩
          · obtain rfl : 225 = t9 := by simpa using ht9
            refine co_bipush (z := 46) dX3_kindOf_225 rfl ?_
            refine co_ireturn dX3_kindOf_227 rfl ?_
            have n1 : ¬ ltB (b p) := fun z => by rw [if_pos z] at c10; omega
            have n2 : ¬ fgB (b p) := fun z => by rw [if_pos z] at c24; omega
            exact ⟨by rw [tK_d (by omega) n2 n1 (by omega)], rfl⟩
          · obtain rfl : 225 = t9 := by simpa using ht9
            refine co_bipush (z := 46) dX3_kindOf_225 rfl ?_
            refine co_ireturn dX3_kindOf_227 rfl ?_
            have n1 : ¬ ltB (b p) := fun z => by rw [if_pos z] at c10; omega
            have n2 : ¬ fgB (b p) := fun z => by rw [if_pos z] at c24; omega
            exact ⟨by rw [tK_d (by omega) n2 n1 (by omega)], rfl⟩
          · obtain rfl : 225 = t9 := by simpa using ht9
            refine co_bipush (z := 46) dX3_kindOf_225 rfl ?_
            refine co_ireturn dX3_kindOf_227 rfl ?_
            have n1 : ¬ ltB (b p) := fun z => by rw [if_pos z] at c10; omega
            have n2 : ¬ fgB (b p) := fun z => by rw [if_pos z] at c24; omega
            exact ⟨by rw [tK_d (by omega) n2 n1 (by omega)], rfl⟩
          · obtain rfl : 225 = t9 := by simpa using ht9
            refine co_bipush (z := 46) dX3_kindOf_225 rfl ?_
            refine co_ireturn dX3_kindOf_227 rfl ?_
            have n1 : ¬ ltB (b p) := fun z => by rw [if_pos z] at c10; omega
            have n2 : ¬ fgB (b p) := fun z => by rw [if_pos z] at c24; omega
            exact ⟨by rw [tK_d (by omega) n2 n1 (by omega)], rfl⟩
          · obtain rfl : 225 = t9 := by simpa using ht9
            refine co_bipush (z := 46) dX3_kindOf_225 rfl ?_
            refine co_ireturn dX3_kindOf_227 rfl ?_
            have n1 : ¬ ltB (b p) := fun z => by rw [if_pos z] at c10; omega
            have n2 : ¬ fgB (b p) := fun z => by rw [if_pos z] at c24; omega
            exact ⟨by rw [tK_d (by omega) n2 n1 (by omega)], rfl⟩
          · obtain rfl : 225 = t9 := by simpa using ht9
            refine co_bipush (z := 46) dX3_kindOf_225 rfl ?_
            refine co_ireturn dX3_kindOf_227 rfl ?_
            have n1 : ¬ ltB (b p) := fun z => by rw [if_pos z] at c10; omega
            have n2 : ¬ fgB (b p) := fun z => by rw [if_pos z] at c24; omega
            exact ⟨by rw [tK_d (by omega) n2 n1 (by omega)], rfl⟩
          · obtain rfl : 225 = t9 := by simpa using ht9
            refine co_bipush (z := 46) dX3_kindOf_225 rfl ?_
            refine co_ireturn dX3_kindOf_227 rfl ?_
            have n1 : ¬ ltB (b p) := fun z => by rw [if_pos z] at c10; omega
            have n2 : ¬ fgB (b p) := fun z => by rw [if_pos z] at c24; omega
            exact ⟨by rw [tK_d (by omega) n2 n1 (by omega)], rfl⟩
          · obtain rfl : 225 = t9 := by simpa using ht9
            refine co_bipush (z := 46) dX3_kindOf_225 rfl ?_
            refine co_ireturn dX3_kindOf_227 rfl ?_
            have n1 : ¬ ltB (b p) := fun z => by rw [if_pos z] at c10; omega
            have n2 : ¬ fgB (b p) := fun z => by rw [if_pos z] at c24; omega
            exact ⟨by rw [tK_d (by omega) n2 n1 (by omega)], rfl⟩
          · obtain rfl : 225 = t9 := by simpa using ht9
            refine co_bipush (z := 46) dX3_kindOf_225 rfl ?_
            refine co_ireturn dX3_kindOf_227 rfl ?_
            have n1 : ¬ ltB (b p) := fun z => by rw [if_pos z] at c10; omega
            have n2 : ¬ fgB (b p) := fun z => by rw [if_pos z] at c24; omega
            exact ⟨by rw [tK_d (by omega) n2 n1 (by omega)], rfl⟩
          · obtain rfl : 225 = t9 := by simpa using ht9
            refine co_bipush (z := 46) dX3_kindOf_225 rfl ?_
            refine co_ireturn dX3_kindOf_227 rfl ?_
            have n1 : ¬ ltB (b p) := fun z => by rw [if_pos z] at c10; omega
            have n2 : ¬ fgB (b p) := fun z => by rw [if_pos z] at c24; omega
            exact ⟨by rw [tK_d (by omega) n2 n1 (by omega)], rfl⟩
          · obtain rfl : 222 = t9 := by simpa using ht9
            refine co_bipush (z := 44) dX3_kindOf_222 rfl ?_
            refine co_ireturn dX3_kindOf_224 rfl ?_
            have n1 : ¬ ltB (b p) := fun z => by rw [if_pos z] at c10; omega
            have n2 : ¬ fgB (b p) := fun z => by rw [if_pos z] at c24; omega
            exact ⟨by rw [tK_59 (by omega)], rfl⟩
          · obtain rfl : 172 = t9 := by simpa using ht9
            refine co_iload dX3_kindOf_172 rfl ?_
            refine co_if_eq (tgt := 182) dX3_kindOf_174 rfl (by first | omega | (split <;> omega)) (fun c174 => ?_) (fun c174 => ?_)
            · refine co_bipush (z := 32) dX3_kindOf_182 rfl ?_
              refine co_ireturn dX3_kindOf_184 rfl ?_
              have n1 : ¬ ltB (b p) := fun z => by rw [if_pos z] at c10; omega
              have n2 : ¬ fgB (b p) := fun z => by rw [if_pos z] at c24; omega
              have et : tE b p = if (b p = 60 ∨ b p = 62) ∧ b (p + 1) = 61 then p + 2 else p + 1 := by unfold tE; rw [if_neg (by omega), if_neg n2, if_neg n1]
              have e2 : b p = 60 := by omega
              have q9 : ¬ b (p + 1) = 61 := by
                by_cases z : b (p + 1) = 61
                · rw [if_pos ⟨by omega, z⟩] at et; first | exact z | (exfalso; omega)
                · rw [if_neg (fun y => z y.2)] at et; first | exact z | (exfalso; omega)
              exact ⟨by rw [tK_60 e2, if_neg q9], rfl⟩
            · refine co_bipush (z := 33) dX3_kindOf_177 rfl ?_
              refine co_goto (tgt := 184) dX3_kindOf_179 rfl ?_
              refine co_ireturn dX3_kindOf_184 rfl ?_
              have n1 : ¬ ltB (b p) := fun z => by rw [if_pos z] at c10; omega
              have n2 : ¬ fgB (b p) := fun z => by rw [if_pos z] at c24; omega
              have et : tE b p = if (b p = 60 ∨ b p = 62) ∧ b (p + 1) = 61 then p + 2 else p + 1 := by unfold tE; rw [if_neg (by omega), if_neg n2, if_neg n1]
              have e2 : b p = 60 := by omega
              have q9 :  b (p + 1) = 61 := by
                by_cases z : b (p + 1) = 61
                · rw [if_pos ⟨by omega, z⟩] at et; first | exact z | (exfalso; omega)
                · rw [if_neg (fun y => z y.2)] at et; first | exact z | (exfalso; omega)
              exact ⟨by rw [tK_60 e2, if_pos q9], rfl⟩
          · obtain rfl : 198 = t9 := by simpa using ht9
            refine co_bipush (z := 36) dX3_kindOf_198 rfl ?_
            refine co_ireturn dX3_kindOf_200 rfl ?_
            have n1 : ¬ ltB (b p) := fun z => by rw [if_pos z] at c10; omega
            have n2 : ¬ fgB (b p) := fun z => by rw [if_pos z] at c24; omega
            exact ⟨by rw [tK_61 (by omega)], rfl⟩
          · obtain rfl : 185 = t9 := by simpa using ht9
            refine co_iload dX3_kindOf_185 rfl ?_
            refine co_if_eq (tgt := 195) dX3_kindOf_187 rfl (by first | omega | (split <;> omega)) (fun c187 => ?_) (fun c187 => ?_)
            · refine co_bipush (z := 34) dX3_kindOf_195 rfl ?_
              refine co_ireturn dX3_kindOf_197 rfl ?_
              have n1 : ¬ ltB (b p) := fun z => by rw [if_pos z] at c10; omega
              have n2 : ¬ fgB (b p) := fun z => by rw [if_pos z] at c24; omega
              have et : tE b p = if (b p = 60 ∨ b p = 62) ∧ b (p + 1) = 61 then p + 2 else p + 1 := by unfold tE; rw [if_neg (by omega), if_neg n2, if_neg n1]
              have e2 : b p = 62 := by omega
              have q9 : ¬ b (p + 1) = 61 := by
                by_cases z : b (p + 1) = 61
                · rw [if_pos ⟨by omega, z⟩] at et; first | exact z | (exfalso; omega)
                · rw [if_neg (fun y => z y.2)] at et; first | exact z | (exfalso; omega)
              exact ⟨by rw [tK_62 e2, if_neg q9], rfl⟩
            · refine co_bipush (z := 35) dX3_kindOf_190 rfl ?_
              refine co_goto (tgt := 197) dX3_kindOf_192 rfl ?_
              refine co_ireturn dX3_kindOf_197 rfl ?_
              have n1 : ¬ ltB (b p) := fun z => by rw [if_pos z] at c10; omega
              have n2 : ¬ fgB (b p) := fun z => by rw [if_pos z] at c24; omega
              have et : tE b p = if (b p = 60 ∨ b p = 62) ∧ b (p + 1) = 61 then p + 2 else p + 1 := by unfold tE; rw [if_neg (by omega), if_neg n2, if_neg n1]
              have e2 : b p = 62 := by omega
              have q9 :  b (p + 1) = 61 := by
                by_cases z : b (p + 1) = 61
                · rw [if_pos ⟨by omega, z⟩] at et; first | exact z | (exfalso; omega)
                · rw [if_neg (fun y => z y.2)] at et; first | exact z | (exfalso; omega)
              exact ⟨by rw [tK_62 e2, if_pos q9], rfl⟩
    · refine co_bipush (z := 31) dX3_kindOf_27 rfl ?_
      refine co_ireturn dX3_kindOf_29 rfl ?_
      have hd : fgB (b p) := Classical.byContradiction (fun z => by rw [if_neg z] at c24; omega)
      exact ⟨by rw [tK_n hd], rfl⟩
  · refine co_aload_n dX3_kindOf_13 rfl ?_
    refine co_iload_n dX3_kindOf_14 rfl ?_
    refine co_iload_n dX3_kindOf_15 rfl ?_
    refine c_vI dX3_kindOf_16 (hw h p ⟨hX, eL, hB, hb⟩ hp (Classical.byContradiction (fun z => by rw [if_neg z] at c10; omega))) (by decide) hX.R.1 rfl rfl (Nat.le_of_ble_eq_true rfl) ?_
    exact co_ireturn dX3_kindOf_19 rfl ⟨rfl, rfl⟩
def aTk (h : ph) (r : Nat) (n x y z : Int) : ph := sI (sI (sI (sI h (r + 2) n x) (r + 3) n y) (r + 4) n z) r 5 (n + 1)
theorem aTk_Sm (h : ph) (r : Nat) (n x y z : Int) : Sm h (aTk h r n x y z) := ((((Sm.refl h).sI _ _ _).sI _ _ _).sI _ _ _).sI _ _ _
set_option maxRecDepth 20000 in
theorem ev_X3_addToken {G : gG} {l : Launch} {h : ph} {o : Nat} {x y z : Int} (hX : isX h o) (hn : 0 ≤ hI h (o + 108) 5 ∧ hI h (o + 108) 5 ≤ 300) : Ev G l mX3_addToken 0 0 0 [.ref (o + 108), vI x, vI y, vI z] h (eV (aTk h (o + 108) (hI h (o + 108) 5) x y z)) := by
  generalize en : hI h (o + 108) 5 = n at hn
  refine ev_of (ls := [some (.ref (o + 108)), some (vI x), some (vI y), some (vI z)]) (by decide +kernel) (Nat.le_of_ble_eq_true rfl) rfl ?_
  refine co_aload_n dX3_addToken_0 rfl ?_
  refine r_getI dX3_addToken_1 hX.R.1 ?_
  try simp (disch := omega) only [hI_sI_n, en]
  refine co_sipush (z := 300) dX3_addToken_4 rfl ?_
  refine co_icmp_gt (tgt := 50) dX3_addToken_7 rfl (by omega) (by omega) (fun c7 => ?_) (fun c7 => ?_)
  · exact absurd c7 (by omega)
  refine co_aload_n dX3_addToken_10 rfl ?_
  refine r_getR dX3_addToken_11 hX.R.1 hX.R.2.2.1.1 ?_
  refine co_aload_n dX3_addToken_14 rfl ?_
  refine r_getI dX3_addToken_15 hX.R.1 ?_
  try simp (disch := omega) only [hI_sI_n, en]
  refine co_iload_n dX3_addToken_18 rfl ?_
  refine r_iast dX3_addToken_19 hX.R.2.2.1.2 (by omega) ?_
  refine co_aload_n dX3_addToken_20 rfl ?_
  refine r_getR dX3_addToken_21 hX.R.1 hX.R.2.2.2.1.1 ?_
  refine co_aload_n dX3_addToken_24 rfl ?_
  refine r_getI dX3_addToken_25 hX.R.1 ?_
  try simp (disch := omega) only [hI_sI_n, en]
  refine co_iload_n dX3_addToken_28 rfl ?_
  refine r_iast dX3_addToken_29 hX.R.2.2.2.1.2 (by omega) ?_
  refine co_aload_n dX3_addToken_30 rfl ?_
  refine r_getR dX3_addToken_31 hX.R.1 hX.R.2.2.2.2.1 ?_
  refine co_aload_n dX3_addToken_34 rfl ?_
  refine r_getI dX3_addToken_35 hX.R.1 ?_
  try simp (disch := omega) only [hI_sI_n, en]
  refine co_iload_n dX3_addToken_38 rfl ?_
  refine r_iast dX3_addToken_39 hX.R.2.2.2.2.2 (by omega) ?_
  refine co_aload_n dX3_addToken_40 rfl ?_
  refine co_dup dX3_addToken_41 rfl ?_
  refine r_getI dX3_addToken_42 hX.R.1 ?_
  try simp (disch := omega) only [hI_sI_n, en]
  refine co_iconst dX3_addToken_45 ?_
  refine co_iadd dX3_addToken_46 ?_
  refine r_putI dX3_addToken_47 hX.R.1 ?_
  exact co_return dX3_addToken_50 rfl ⟨rfl, rfl⟩
theorem skp_e (b : Int → Int) {f g : Nat} : ∀ (k : Nat) (i : Int), (∀ j : Int, i + k ≤ j → ¬ (b j = 32 ∨ b j = 10)) → k < f → k < g → skp b f i = skp b g i := by
  intro k
  induction k generalizing f g with
  | zero =>
    intro i h hf hg
    obtain ⟨f, rfl⟩ : ∃ f', f = f' + 1 := ⟨f - 1, by omega⟩
    obtain ⟨g, rfl⟩ : ∃ g', g = g' + 1 := ⟨g - 1, by omega⟩
    rw [skp, skp, if_neg (h i (by omega)), if_neg (h i (by omega))]
  | succ k ih =>
    intro i h hf hg
    obtain ⟨f, rfl⟩ : ∃ f', f = f' + 1 := ⟨f - 1, by omega⟩
    obtain ⟨g, rfl⟩ : ∃ g', g = g' + 1 := ⟨g - 1, by omega⟩
    rw [skp, skp]
    by_cases q : b i = 32 ∨ b i = 10
    · rw [if_pos q, if_pos q]
      exact ih (i + 1) (fun j hj => h j (by omega)) (by omega) (by omega)
    · rw [if_neg q, if_neg q]
theorem skp_y {b : Int → Int} {L : Int} (H : TB b L) {i : Int} (hi : 0 ≤ i) (h : b i = 32 ∨ b i = 10) : skp b 302 i = skp b 302 (i + 1) := by
  have hL := H.1
  have hl := (H.lt hi).mp (by omega)
  rw [skp, if_pos h]
  exact skp_e b (L - (i + 1)).toNat (i + 1) (fun j hj q => by have := (H.lt (show 0 ≤ j by omega)).mp (by omega); omega) (by omega) (by omega)
theorem skp_n {b : Int → Int} {i : Int} (h : ¬ (b i = 32 ∨ b i = 10)) : skp b 302 i = i := by
  rw [skp, if_neg h]
/-- the first n tokens lie in the reader's rows -/
def TkC (h : ph) (o : Nat) (b : Int → Int) (n : Nat) : Prop := ∀ i : Nat, i < n → hI h (o + 108 + 2) i = tK b (tP b i) ∧ hI h (o + 108 + 3) i = tP b i ∧ (0 ≤ hI h (o + 108 + 4) i ∧ hI h (o + 108 + 4) i ≤ 10000) ∧ (tK b (tP b i) = 31 → hI h (o + 108 + 4) i = min 10000 (tN b (tP b i)))
/-- only the reader's tokens have changed -/
def RG (h h1 : ph) (r : Nat) : Prop := Sm h h1 ∧ (∀ q : Nat, q ≠ r → q ≠ r + 2 → q ≠ r + 3 → q ≠ r + 4 → hI h1 q = hI h q) ∧ ∀ i : Int, i ≠ 5 → hI h1 r i = hI h r i
theorem RG.refl (h : ph) (r : Nat) : RG h h r := ⟨Sm.refl h, fun _ _ _ _ _ => rfl, fun _ _ => rfl⟩
theorem RG.trans {h h1 h2 : ph} {r : Nat} (A : RG h h1 r) (B : RG h1 h2 r) : RG h h2 r := ⟨A.1.trans B.1, fun q a b c d => by rw [B.2.1 q a b c d, A.2.1 q a b c d], fun i hi => by rw [B.2.2 i hi, A.2.2 i hi]⟩
theorem RG.tk (h : ph) (r : Nat) (n x y z : Int) : RG h (aTk h r n x y z) r := by
  refine ⟨aTk_Sm _ _ _ _ _ _, fun q a b c d => ?_, fun i hi => ?_⟩
  · unfold aTk; rw [hI_sI_n _ _ _ a, hI_sI_n _ _ _ d, hI_sI_n _ _ _ c, hI_sI_n _ _ _ b]
  · unfold aTk; rw [hI_sI_s, u1_n _ _ hi, hI_sI_n _ _ _ (by omega), hI_sI_n _ _ _ (by omega), hI_sI_n _ _ _ (by omega)]
theorem RbC.g {h h1 : ph} {o : Nat} {b : Int → Int} {L : Int} (R : RbC h o b L) (F : RG h h1 (o + 108)) : RbC h1 o b L := by
  obtain ⟨a1, a2, a3, a4⟩ := R
  refine ⟨a1.f F.1, by rw [F.2.2 1 (by decide)]; exact a2, a3, fun j hj => ?_⟩
  rw [F.2.1 _ (by omega) (by omega) (by omega) (by omega)]
  exact a4 j hj
theorem TkC.add {h : ph} {o : Nat} {b : Int → Int} {n : Nat} (H : TkC h o b n) {v : Int} (hv : 0 ≤ v ∧ v ≤ 10000) (h31 : tK b (tP b n) = 31 → v = min 10000 (tN b (tP b n))) : TkC (aTk h (o + 108) (n : Int) (tK b (tP b n)) (tP b n) v) o b (n + 1) := by
  intro i hi
  unfold aTk
  rw [hI_sI_n _ _ _ (show o + 108 + 2 ≠ o + 108 by omega), hI_sI_n _ _ _ (show o + 108 + 2 ≠ o + 108 + 4 by omega), hI_sI_n _ _ _ (show o + 108 + 2 ≠ o + 108 + 3 by omega), hI_sI_s, hI_sI_n _ _ _ (show o + 108 + 3 ≠ o + 108 by omega), hI_sI_n _ _ _ (show o + 108 + 3 ≠ o + 108 + 4 by omega), hI_sI_s, hI_sI_n _ _ _ (show o + 108 + 3 ≠ o + 108 + 2 by omega), hI_sI_n _ _ _ (show o + 108 + 4 ≠ o + 108 by omega), hI_sI_s, hI_sI_n _ _ _ (show o + 108 + 4 ≠ o + 108 + 3 by omega), hI_sI_n _ _ _ (show o + 108 + 4 ≠ o + 108 + 2 by omega)]
  by_cases q : i = n
  · subst q
    rw [u1_s, u1_s, u1_s]
    exact ⟨rfl, rfl, hv, h31⟩
  · rw [u1_n _ _ (by omega), u1_n _ _ (by omega), u1_n _ _ (by omega)]
    exact H i (by omega)
theorem aTk_5 (h : ph) (r : Nat) (n x y z : Int) : hI (aTk h r n x y z) r 5 = n + 1 := by
  unfold aTk
  rw [hI_sI_s, u1_s]
theorem wrd_ge (b : Int → Int) : ∀ (f : Nat) (i n : Int), i ≤ (wrdF b f i n).2 := by
  intro f
  induction f with
  | zero => intro i n; exact Int.le_refl _
  | succ f ih =>
    intro i n
    rw [wrdF]
    split
    · have := ih (i + 1) (if 281474976710656 ≤ n then 1152921504606846976 else 256 * n + b i); omega
    · exact Int.le_refl _
set_option maxRecDepth 20000 in
theorem ev_X3_splitTape {G : gG} {l : Launch} {h : ph} {o : Nat} {b : Int → Int} {L : Int} (R : RbC h o b L) (hw : WdOK G l o b L) : Ev G l mX3_splitTape 6 0 0 [.ref (o + 108)] h ((fun r h1 => r = none ∧ RG h h1 (o + 108) ∧ ∃ n : Nat, n ≤ 300 ∧ hI h1 (o + 108) 5 = (n : Int) + 1 ∧ tP b n = L ∧ TkC h1 o b (n + 1))) := by
  have hB := R.2.2.1
  have hL := hB.1
  refine ev_of (ls := [some (.ref (o + 108)), none, none, none]) (by decide +kernel) (Nat.le_of_ble_eq_true rfl) rfl ?_
  have loop : ∀ (m n : Nat) (i : Int) (hh : ph) (w2 w3 : Option Value), 0 ≤ i ∧ i ≤ L → L - i ≤ m → (n : Int) ≤ i → RG h hh (o + 108) → RbC hh o b L → hI hh (o + 108) 5 = n → skp b 302 i = tP b n → TkC hh o b n → Co G l mX3_splitTape 6 0 0 0 0 7 [some (.ref (o + 108)), some (vI i), w2, w3] [] hh (fun r h1 => r = none ∧ RG h h1 (o + 108) ∧ ∃ n : Nat, n ≤ 300 ∧ hI h1 (o + 108) 5 = (n : Int) + 1 ∧ tP b n = L ∧ TkC h1 o b (n + 1)) := by
    intro m
    induction m with
    | zero =>
      intro n i hh w2 w3 hi hm hn F0 R0 e5 es T0
      have X0 := R0.1
      have e1 := R0.2.1
      have hbL := hB.2.2 L (by omega)
      have eT : tP b n = L := by rw [← es, show i = L by omega]; exact skp_n (by omega)
      refine co_iload_n dX3_splitTape_7 rfl ?_
      refine co_aload_n dX3_splitTape_8 rfl ?_
      refine r_getI dX3_splitTape_9 X0.R.1 ?_
      try rw [e1]
      refine co_icmp_ge (tgt := 70) dX3_splitTape_12 rfl (by omega) (by omega) (fun c12 => ?_) (fun c12 => ?_)
      rotate_left
      · exact absurd c12 (by omega)
      refine co_aload_n dX3_splitTape_70 rfl ?_
      refine co_bipush (z := 45) dX3_splitTape_71 rfl ?_
      refine co_aload_n dX3_splitTape_73 rfl ?_
      refine r_getI dX3_splitTape_74 X0.R.1 ?_
      try rw [e1]
      refine co_iconst dX3_splitTape_77 ?_
      refine c_vV dX3_splitTape_78 (ev_X3_addToken X0 (by omega)) (by decide) X0.R.1 rfl rfl (Nat.le_of_ble_eq_true rfl) ?_
      refine co_return dX3_splitTape_81 rfl ?_
      have T1 := T0.add (v := 0) (by decide) (fun q => by rw [eT, tK_f (by omega)] at q; omega)
      rw [eT, tK_f (show b L < 0 by omega)] at T1
      rw [e5]
      exact ⟨rfl, F0.trans (RG.tk _ _ _ _ _ _), n, by omega, aTk_5 _ _ _ _ _ _, eT, T1⟩
    | succ m ih =>
      intro n i hh w2 w3 hi hm hn F0 R0 e5 es T0
      have X0 := R0.1
      have e1 := R0.2.1
      have hbL := hB.2.2 L (by omega)
      have hbi := hB.r (i := i) (by omega)
      refine co_iload_n dX3_splitTape_7 rfl ?_
      refine co_aload_n dX3_splitTape_8 rfl ?_
      refine r_getI dX3_splitTape_9 X0.R.1 ?_
      try rw [e1]
      refine co_icmp_ge (tgt := 70) dX3_splitTape_12 rfl (by omega) (by omega) (fun c12 => ?_) (fun c12 => ?_)
      · have eT : tP b n = L := by rw [← es, show i = L by omega]; exact skp_n (by omega)
        refine co_aload_n dX3_splitTape_70 rfl ?_
        refine co_bipush (z := 45) dX3_splitTape_71 rfl ?_
        refine co_aload_n dX3_splitTape_73 rfl ?_
        refine r_getI dX3_splitTape_74 X0.R.1 ?_
        try rw [e1]
        refine co_iconst dX3_splitTape_77 ?_
        refine c_vV dX3_splitTape_78 (ev_X3_addToken X0 (by omega)) (by decide) X0.R.1 rfl rfl (Nat.le_of_ble_eq_true rfl) ?_
        refine co_return dX3_splitTape_81 rfl ?_
        have T1 := T0.add (v := 0) (by decide) (fun q => by rw [eT, tK_f (by omega)] at q; omega)
        rw [eT, tK_f (show b L < 0 by omega)] at T1
        rw [e5]
        exact ⟨rfl, F0.trans (RG.tk _ _ _ _ _ _), n, by omega, aTk_5 _ _ _ _ _ _, eT, T1⟩
      · skip
        refine co_aload_n dX3_splitTape_15 rfl ?_
        refine co_iload_n dX3_splitTape_16 rfl ?_
        refine c_vI dX3_splitTape_17 (ev_X3_byteAt R0 (i := i) (by omega)) (by decide) X0.R.1 rfl rfl (Nat.le_of_ble_eq_true rfl) ?_
        refine s_istore_n (ls' := [_, _, _, _]) dX3_splitTape_20 (Nat.le_of_ble_eq_true rfl) rfl rfl ?_
        refine co_iload_n dX3_splitTape_21 rfl ?_
        refine co_bipush (z := 32) dX3_splitTape_22 rfl ?_
        refine co_icmp_eq (tgt := 64) dX3_splitTape_24 rfl (by omega) (by omega) (fun c24 => ?_) (fun c24 => ?_)
        · refine s_iinc (ls' := [_, _, _, _]) dX3_splitTape_64 rfl (Nat.le_of_ble_eq_true rfl) rfl rfl ?_
          refine co_goto (tgt := 7) dX3_splitTape_67 rfl ?_
          exact ih n (i + 1) hh _ _ (by omega) (by omega) (by omega) F0 R0 e5 ((skp_y hB (by omega) (by omega)).symm.trans es) T0
        · refine co_iload_n dX3_splitTape_27 rfl ?_
          refine co_bipush (z := 10) dX3_splitTape_28 rfl ?_
          refine co_icmp_eq (tgt := 64) dX3_splitTape_30 rfl (by omega) (by omega) (fun c30 => ?_) (fun c30 => ?_)
          · refine s_iinc (ls' := [_, _, _, _]) dX3_splitTape_64 rfl (Nat.le_of_ble_eq_true rfl) rfl rfl ?_
            refine co_goto (tgt := 7) dX3_splitTape_67 rfl ?_
            exact ih n (i + 1) hh _ _ (by omega) (by omega) (by omega) F0 R0 e5 ((skp_y hB (by omega) (by omega)).symm.trans es) T0
          · have ei : tP b n = i := by rw [← es]; exact skp_n (by omega)
            have hte := tE_TB hB (p := i) (by omega)
            have bi0 := (hB.lt (show 0 ≤ i by omega)).mpr (by omega)
            have htl : i + 1 ≤ tE b i := by
              by_cases q1 : fgB (b i)
              · have : tE b i = eF9 b i := by unfold tE; rw [if_neg (by omega), if_pos q1]; rfl
                rw [this, eF9_y hB (by omega) q1]
                exact fig_ge b 302 (i + 1) 0
              · by_cases q2 : ltB (b i)
                · have : tE b i = eW9 b i := by unfold tE; rw [if_neg (by omega), if_neg q1, if_pos q2]; rfl
                  rw [this, eW9_y hB (by omega) q2]
                  exact wrd_ge b 302 (i + 1) 0
                · unfold tE
                  rw [if_neg (by omega), if_neg q1, if_neg q2]
                  split <;> omega
            have hv := vlF_r b (tE b i - i).toNat i 0 (by decide)
            have h31 : tK b (tP b n) = 31 → it (vlF b) (tE b i - i).toNat i 0 = min 10000 (tN b (tP b n)) := fun q => by
              rw [ei] at q ⊢
              have q1 : fgB (b i) := by
                by_cases q1 : fgB (b i)
                · exact q1
                · by_cases q2 : ltB (b i)
                  · exact absurd q (tK_w q2)
                  · exact absurd q (tK_31 bi0 q1 q2)
              have e2 : tE b i = (figF b 302 i 0).2 := by unfold tE; rw [if_neg (by omega), if_pos q1]
              have := vl_fig b 302 i 0 (by decide)
              rw [e2]
              exact this
            have T1 := T0.add hv h31
            rw [ei] at T1
            refine co_aload_n dX3_splitTape_33 rfl ?_
            refine co_iload_n dX3_splitTape_34 rfl ?_
            refine c_vI dX3_splitTape_35 (ev_X3_endOfToken R0 (by omega)) (by decide) X0.R.1 rfl rfl (Nat.le_of_ble_eq_true rfl) ?_
            refine s_istore_n (ls' := [_, _, _, _]) dX3_splitTape_38 (Nat.le_of_ble_eq_true rfl) rfl rfl ?_
            refine co_aload_n dX3_splitTape_39 rfl ?_
            refine co_aload_n dX3_splitTape_40 rfl ?_
            refine co_iload_n dX3_splitTape_41 rfl ?_
            refine co_iload_n dX3_splitTape_42 rfl ?_
            refine c_vI dX3_splitTape_43 (ev_X3_kindOf R0 (by omega) hw) (by decide) X0.R.1 rfl rfl (Nat.le_of_ble_eq_true rfl) ?_
            refine co_iload_n dX3_splitTape_46 rfl ?_
            refine co_aload_n dX3_splitTape_47 rfl ?_
            refine co_iload_n dX3_splitTape_48 rfl ?_
            refine co_iload_n dX3_splitTape_49 rfl ?_
            refine c_vI dX3_splitTape_50 (ev_X3_valueOf R0 (by omega) (by omega)) (by decide) X0.R.1 rfl rfl (Nat.le_of_ble_eq_true rfl) ?_
            refine c_vV dX3_splitTape_53 (ev_X3_addToken X0 (by omega)) (by decide) X0.R.1 rfl rfl (Nat.le_of_ble_eq_true rfl) ?_
            refine co_iload_n dX3_splitTape_56 rfl ?_
            refine co_iload_n dX3_splitTape_57 rfl ?_
            refine co_iconst dX3_splitTape_58 ?_
            refine co_isub dX3_splitTape_59 ?_
            refine r_maxI dX3_splitTape_60 (by decide) (Nat.le_of_ble_eq_true rfl) (by omega) (by omega) ?_
            refine s_istore_n (ls' := [_, _, _, _]) dX3_splitTape_63 (Nat.le_of_ble_eq_true rfl) rfl rfl ?_
            refine s_iinc (ls' := [_, _, _, _]) dX3_splitTape_64 rfl (Nat.le_of_ble_eq_true rfl) rfl rfl ?_
            refine co_goto (tgt := 7) dX3_splitTape_67 rfl ?_
            rw [e5]
            rw [show max i (tE b i - 1) + 1 = tE b i by omega]
            exact ih (n + 1) (tE b i) _ _ _ (by omega) (by omega) (by omega) (F0.trans (RG.tk _ _ _ _ _ _)) (R0.g (RG.tk _ _ _ _ _ _)) (aTk_5 _ _ _ _ _ _) (by rw [tP, ei]) T1
  refine co_aload_n dX3_splitTape_0 rfl ?_
  refine co_iconst dX3_splitTape_1 ?_
  refine r_putI dX3_splitTape_2 R.1.R.1 ?_
  refine co_iconst dX3_splitTape_5 ?_
  refine s_istore_n (ls' := [_, _, _, _]) dX3_splitTape_6 (Nat.le_of_ble_eq_true rfl) rfl rfl ?_
  have F8 : RG h (sI h (o + 108) 5 0) (o + 108) := ⟨(Sm.refl h).sI _ _ _, fun q a _ _ _ => hI_sI_n _ _ _ a, fun i hi => by rw [hI_sI_s, u1_n _ _ hi]⟩
  exact loop L.toNat 0 0 _ none none (by omega) (by omega) (by decide) F8 (R.g F8) (by rw [hI_sI_s, u1_s]; rfl) rfl (fun i hi => absurd hi (Nat.not_lt_zero i))
