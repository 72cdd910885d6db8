-- ===== the class: tokens =====
/-- the reader's tape is b, L long -/
def RbC (h : ph) (o : Nat) (b : Int → Int) (L : Int) : Prop := isX h o ∧ hI h (o + 108) 1 = L ∧ TB b L ∧ ∀ j : Int, 0 ≤ j ∧ j < L → hI h (o + 108 + 1) j = b j
theorem TB.r {b : Int → Int} {L : Int} (H : TB b L) {i : Int} (hi : 0 ≤ i) : -1 ≤ b i ∧ b i ≤ 255 := by
  by_cases q : i < L
  · have := H.2.1 i (by omega); omega
  · have := H.2.2 i (by omega); omega
theorem TB.lt {b : Int → Int} {L : Int} (H : TB b L) {i : Int} (hi : 0 ≤ i) : 0 ≤ b i ↔ i < L := by
  by_cases q : i < L
  · have := H.2.1 i (by omega); omega
  · have := H.2.2 i (by omega); omega
theorem fig_e (b : Int → Int) {f g : Nat} : ∀ (k : Nat) (i n m : Int), (∀ j : Int, i + k ≤ j → ¬ fgB (b j)) → k < f → k < g → (figF b f i n).2 = (figF b g i m).2 := by
  intro k
  induction k generalizing f g with
  | zero =>
    intro i n m h hf hg
    obtain ⟨f, rfl⟩ : ∃ f', f = f' + 1 := ⟨f - 1, by omega⟩
    obtain ⟨g, rfl⟩ : ∃ g', g = g' + 1 := ⟨g - 1, by omega⟩
    rw [figF, figF, if_neg (h i (by omega)), if_neg (h i (by omega))]
  | succ k ih =>
    intro i n m h hf hg
    obtain ⟨f, rfl⟩ : ∃ f', f = f' + 1 := ⟨f - 1, by omega⟩
    obtain ⟨g, rfl⟩ : ∃ g', g = g' + 1 := ⟨g - 1, by omega⟩
    rw [figF, figF]
    by_cases q : 48 ≤ b i ∧ b i ≤ 57
    · rw [if_pos q, if_pos q]
      exact ih (i + 1) _ _ (fun j hj => h j (by omega)) (by omega) (by omega)
    · rw [if_neg q, if_neg q]
theorem wrd_e (b : Int → Int) {f g : Nat} : ∀ (k : Nat) (i n m : Int), (∀ j : Int, i + k ≤ j → ¬ ltB (b j)) → k < f → k < g → (wrdF b f i n).2 = (wrdF b g i m).2 := by
  intro k
  induction k generalizing f g with
  | zero =>
    intro i n m h hf hg
    obtain ⟨f, rfl⟩ : ∃ f', f = f' + 1 := ⟨f - 1, by omega⟩
    obtain ⟨g, rfl⟩ : ∃ g', g = g' + 1 := ⟨g - 1, by omega⟩
    rw [wrdF, wrdF, if_neg (h i (by omega)), if_neg (h i (by omega))]
  | succ k ih =>
    intro i n m h hf hg
    obtain ⟨f, rfl⟩ : ∃ f', f = f' + 1 := ⟨f - 1, by omega⟩
    obtain ⟨g, rfl⟩ : ∃ g', g = g' + 1 := ⟨g - 1, by omega⟩
    rw [wrdF, wrdF]
    by_cases q : (97 ≤ b i ∧ b i ≤ 122) ∨ (65 ≤ b i ∧ b i ≤ 90)
    · rw [if_pos q, if_pos q]
      exact ih (i + 1) _ _ (fun j hj => h j (by omega)) (by omega) (by omega)
    · rw [if_neg q, if_neg q]
/-- where the figures, the letters end from i on -/
def eF9 (b : Int → Int) (i : Int) : Int := (figF b 302 i 0).2
def eW9 (b : Int → Int) (i : Int) : Int := (wrdF b 302 i 0).2
theorem eF9_y {b : Int → Int} {L : Int} (H : TB b L) {i : Int} (hi : 0 ≤ i) (h : fgB (b i)) : eF9 b i = eF9 b (i + 1) := by
  have hL := H.1
  have hl := (H.lt hi).mp (by omega)
  unfold eF9
  rw [figF, if_pos h]
  exact fig_e b (L - (i + 1)).toNat (i + 1) _ _ (fun j hj q => by have := (H.lt (show 0 ≤ j by omega)).mp (by omega); omega) (by omega) (by omega)
theorem eF9_n {b : Int → Int} {i : Int} (h : ¬ fgB (b i)) : eF9 b i = i := by
  unfold eF9
  rw [figF, if_neg h]
theorem eW9_y {b : Int → Int} {L : Int} (H : TB b L) {i : Int} (hi : 0 ≤ i) (h : ltB (b i)) : eW9 b i = eW9 b (i + 1) := by
  have hL := H.1
  have hl := (H.lt hi).mp (by omega)
  unfold eW9
  rw [wrdF, if_pos h]
  exact wrd_e b (L - (i + 1)).toNat (i + 1) _ _ (fun j hj q => by have := (H.lt (show 0 ≤ j by omega)).mp (by omega); omega) (by omega) (by omega)
theorem eW9_n {b : Int → Int} {i : Int} (h : ¬ ltB (b i)) : eW9 b i = i := by
  unfold eW9
  rw [wrdF, if_neg h]
def vlF (b : Int → Int) (i v : Int) : Int := min 10000 (v * 10 + max 0 (b i - 48))
theorem fig_ge (b : Int → Int) : ∀ (f : Nat) (i n : Int), i ≤ (figF b f i n).2 := by
  intro f
  induction f with
  | zero => intro i n; exact Int.le_refl _
  | succ f ih =>
    intro i n
    rw [figF]
    split
    · have := ih (i + 1) (if 99999 < n then n else 10 * n + b i - 48); omega
    · exact Int.le_refl _
theorem vl_fig (b : Int → Int) : ∀ (f : Nat) (i n : Int), 0 ≤ n → it (vlF b) ((figF b f i n).2 - i).toNat i (min 10000 n) = min 10000 (figF b f i n).1 := by
  intro f
  induction f with
  | zero => intro i n _; rw [figF, show (i - i).toNat = 0 by omega]; rfl
  | succ f ih =>
    intro i n hn
    rw [figF]
    by_cases q : 48 ≤ b i ∧ b i ≤ 57
    · rw [if_pos q]
      have g := fig_ge b f (i + 1) (if 99999 < n then n else 10 * n + b i - 48)
      rw [show ((figF b f (i + 1) (if 99999 < n then n else 10 * n + b i - 48)).2 - i).toNat = ((figF b f (i + 1) (if 99999 < n then n else 10 * n + b i - 48)).2 - (i + 1)).toNat + 1 by omega, it_s]
      have e : vlF b i (min 10000 n) = min 10000 (if 99999 < n then n else 10 * n + b i - 48) := by
        unfold vlF
        split <;> omega
      rw [e]
      exact ih (i + 1) _ (by split <;> omega)
    · rw [if_neg q, show (i - i).toNat = 0 by omega]; rfl
theorem vlF_r (b : Int → Int) : ∀ (m : Nat) (i v : Int), 0 ≤ v ∧ v ≤ 10000 → 0 ≤ it (vlF b) m i v ∧ it (vlF b) m i v ≤ 10000 := by
  intro m
  induction m with
  | zero => intro i v h; exact h
  | succ m ih => intro i v h; rw [it_s]; exact ih (i + 1) _ (by unfold vlF; omega)
set_option maxRecDepth 20000 in
theorem ev_X3_byteAt {G : gG} {l : Launch} {h : ph} {o : Nat} {b : Int → Int} {L : Int} {i : Int} (R : RbC h o b L) (hi : 0 ≤ i ∧ i ≤ 1000) : Ev G l mX3_byteAt 0 0 0 [.ref (o + 108), vI i] h (eI (b i) h) := by
  obtain ⟨hX, eL, hB, hb⟩ := R
  have hL := hB.1
  refine ev_of (ls := [some (.ref (o + 108)), some (vI i)]) (by decide +kernel) (Nat.le_of_ble_eq_true rfl) rfl ?_
  refine co_iload_n dX3_byteAt_0 rfl ?_
  refine co_if_lt (tgt := 21) dX3_byteAt_1 rfl (by omega) (fun c1 => ?_) (fun c1 => ?_)
  · exact absurd c1 (by omega)
  refine co_iload_n dX3_byteAt_4 rfl ?_
  refine co_aload_n dX3_byteAt_5 rfl ?_
  refine r_getI dX3_byteAt_6 hX.R.1 ?_
  refine co_icmp_ge (tgt := 21) dX3_byteAt_9 rfl (by omega) (by omega) (fun c9 => ?_) (fun c9 => ?_)
  · refine co_iconst dX3_byteAt_21 ?_
    exact co_ireturn dX3_byteAt_22 rfl (eI_of (hB.2.2 i (by omega)).symm rfl)
  · refine co_aload_n dX3_byteAt_12 rfl ?_
    refine r_getR dX3_byteAt_13 hX.R.1 hX.R.2.1.1 ?_
    refine co_iload_n dX3_byteAt_16 rfl ?_
    refine r_iald dX3_byteAt_17 hX.R.2.1.2 (by omega) ?_
    refine co_goto (tgt := 22) dX3_byteAt_18 rfl ?_
    exact co_ireturn dX3_byteAt_22 rfl (eI_of (hb i (by omega)) rfl)
set_option maxRecDepth 20000 in
theorem ev_X3_isLetter {G : gG} {l : Launch} {h : ph} {c : Int} (hc : -1 ≤ c ∧ c ≤ 255) : Ev G l mX3_isLetter 1 0 0 [vI c] h (eI (if ltB c then 1 else 0) h) := by
  refine ev_of (ls := [some (vI c)]) (by decide +kernel) (Nat.le_of_ble_eq_true rfl) rfl ?_
  refine co_iload_n dX3_isLetter_0 rfl ?_
  refine co_bipush (z := 97) dX3_isLetter_1 rfl ?_
  refine co_bipush (z := 122) dX3_isLetter_3 rfl ?_
  refine c_sI dX3_isLetter_5 (ev_X10_isWithin (by omega) (by decide) (by decide)) (by decide) rfl rfl (Nat.le_of_ble_eq_true rfl) ?_
  refine co_if_ne (tgt := 22) dX3_isLetter_8 rfl (by omega) (fun c8 => ?_) (fun c8 => ?_)
  · refine co_iconst dX3_isLetter_22 ?_
    refine co_goto (tgt := 27) dX3_isLetter_23 rfl ?_
    exact co_zreturn dX3_isLetter_27 rfl (by omega) (eI_of (by rw [if_pos (show ltB c by omega)]) rfl)
  · refine co_iload_n dX3_isLetter_11 rfl ?_
    refine co_bipush (z := 65) dX3_isLetter_12 rfl ?_
    refine co_bipush (z := 90) dX3_isLetter_14 rfl ?_
    refine c_sI dX3_isLetter_16 (ev_X10_isWithin (by omega) (by decide) (by decide)) (by decide) rfl rfl (Nat.le_of_ble_eq_true rfl) ?_
    refine co_if_eq (tgt := 26) dX3_isLetter_19 rfl (by omega) (fun c19 => ?_) (fun c19 => ?_)
    · refine co_iconst dX3_isLetter_26 ?_
      exact co_zreturn dX3_isLetter_27 rfl (by omega) (eI_of (by rw [if_neg (show ¬ ltB c by omega)]) rfl)
    · refine co_iconst dX3_isLetter_22 ?_
      refine co_goto (tgt := 27) dX3_isLetter_23 rfl ?_
      exact co_zreturn dX3_isLetter_27 rfl (by omega) (eI_of (by rw [if_pos (show ltB c by omega)]) rfl)
set_option maxRecDepth 20000 in
theorem ev_X3_isDigit {G : gG} {l : Launch} {h : ph} {c : Int} (hc : -1 ≤ c ∧ c ≤ 255) : Ev G l mX3_isDigit 1 0 0 [vI c] h (eI (if fgB c then 1 else 0) h) := by
  refine ev_of (ls := [some (vI c)]) (by decide +kernel) (Nat.le_of_ble_eq_true rfl) rfl ?_
  refine co_iload_n dX3_isDigit_0 rfl ?_
  refine co_bipush (z := 48) dX3_isDigit_1 rfl ?_
  refine co_bipush (z := 57) dX3_isDigit_3 rfl ?_
  refine c_sI dX3_isDigit_5 (ev_X10_isWithin (by omega) (by decide) (by decide)) (by decide) rfl rfl (Nat.le_of_ble_eq_true rfl) ?_
  exact co_zreturn dX3_isDigit_8 rfl (by split <;> omega) ⟨rfl, rfl⟩
set_option maxRecDepth 20000 in
theorem ev_X3_endOfToken {G : gG} {l : Launch} {h : ph} {o : Nat} {b : Int → Int} {L : Int} {p : Int} (R : RbC h o b L) (hp : 0 ≤ p ∧ p < L) : Ev G l mX3_endOfToken 2 0 0 [.ref (o + 108), vI p] h (eI (tE b p) h) := by
  obtain ⟨hX, eL, hB, hb⟩ := R
  have hL := hB.1
  have hp0 := hB.2.1 p (by omega)
  have hp1 := hB.r (i := p + 1) (by omega)
  refine ev_of (ls := [some (.ref (o + 108)), some (vI p), none, none]) (by decide +kernel) (Nat.le_of_ble_eq_true rfl) rfl ?_
  have loopW : ltB (b p) → ∀ (m : Nat) (e : Int), 0 ≤ e ∧ e + m = L → Co G l mX3_endOfToken 2 0 0 0 0 24 [some (.ref (o + 108)), some (vI p), some (vI (b p)), some (vI e)] [] h (eI (eW9 b e) h) := by
    intro hl m
    induction m with
    | zero =>
      intro e he
      have hbe := hB.2.2 e (by omega)
      refine co_iload_n dX3_endOfToken_24 rfl ?_
      refine co_aload_n dX3_endOfToken_25 rfl ?_
      refine r_getI dX3_endOfToken_26 hX.R.1 ?_
      refine co_icmp_ge (tgt := 95) dX3_endOfToken_29 rfl (by omega) (by omega) (fun c29 => ?_) (fun c29 => ?_)
      rotate_left
      · exact absurd c29 (by omega)
      refine co_iload_n dX3_endOfToken_95 rfl ?_
      exact co_ireturn dX3_endOfToken_96 rfl (eI_of (eW9_n (by omega)).symm rfl)
    | succ m ih =>
      intro e he
      have hbe := hB.r (i := e) (by omega)
      refine co_iload_n dX3_endOfToken_24 rfl ?_
      refine co_aload_n dX3_endOfToken_25 rfl ?_
      refine r_getI dX3_endOfToken_26 hX.R.1 ?_
      refine co_icmp_ge (tgt := 95) dX3_endOfToken_29 rfl (by first | omega | (split <;> omega)) (by first | omega | (split <;> omega)) (fun c29 => ?_) (fun c29 => ?_)
      · exact absurd c29 (by omega)
      refine co_iload_n dX3_endOfToken_32 rfl ?_
      refine c_sI dX3_endOfToken_33 (ev_X3_isLetter (by omega)) (by decide) rfl rfl (Nat.le_of_ble_eq_true rfl) ?_
      refine co_if_eq (tgt := 53) dX3_endOfToken_36 rfl (by first | omega | (split <;> omega)) (fun c36 => ?_) (fun c36 => ?_)
      · refine co_aload_n dX3_endOfToken_53 rfl ?_
        refine co_iload_n dX3_endOfToken_54 rfl ?_
        refine c_vI dX3_endOfToken_55 (ev_X3_byteAt ⟨hX, eL, hB, hb⟩ (i := e) (by omega)) (by decide) hX.R.1 rfl rfl (Nat.le_of_ble_eq_true rfl) ?_
        refine c_sI dX3_endOfToken_58 (ev_X3_isDigit (by omega)) (by decide) rfl rfl (Nat.le_of_ble_eq_true rfl) ?_
        refine co_if_eq (tgt := 95) dX3_endOfToken_61 rfl (by first | omega | (split <;> omega)) (fun c61 => ?_) (fun c61 => ?_)
        · refine co_iload_n dX3_endOfToken_95 rfl ?_
          refine co_ireturn dX3_endOfToken_96 rfl ?_
          exact absurd c36 (by rw [if_pos hl]; omega)
        · refine s_iinc (ls' := [_, _, _, _]) dX3_endOfToken_64 rfl (Nat.le_of_ble_eq_true rfl) rfl rfl ?_
          refine co_goto (tgt := 24) dX3_endOfToken_67 rfl ?_
          exact absurd c36 (by rw [if_pos hl]; omega)
      · refine co_aload_n dX3_endOfToken_39 rfl ?_
        refine co_iload_n dX3_endOfToken_40 rfl ?_
        refine c_vI dX3_endOfToken_41 (ev_X3_byteAt ⟨hX, eL, hB, hb⟩ (i := e) (by omega)) (by decide) hX.R.1 rfl rfl (Nat.le_of_ble_eq_true rfl) ?_
        refine c_sI dX3_endOfToken_44 (ev_X3_isLetter (by omega)) (by decide) rfl rfl (Nat.le_of_ble_eq_true rfl) ?_
        refine co_if_eq (tgt := 95) dX3_endOfToken_47 rfl (by first | omega | (split <;> omega)) (fun c47 => ?_) (fun c47 => ?_)
        · refine co_iload_n dX3_endOfToken_95 rfl ?_
          refine co_ireturn dX3_endOfToken_96 rfl ?_
          have q : ¬ ltB (b e) := fun z => by rw [if_pos z] at c47; omega
          exact ⟨by rw [eW9_n q], rfl⟩
        · refine co_goto (tgt := 64) dX3_endOfToken_50 rfl ?_
          refine s_iinc (ls' := [_, _, _, _]) dX3_endOfToken_64 rfl (Nat.le_of_ble_eq_true rfl) rfl rfl ?_
          refine co_goto (tgt := 24) dX3_endOfToken_67 rfl ?_
          have q : ltB (b e) := Classical.byContradiction (fun z => by rw [if_neg z] at c47; omega)
          rw [eW9_y hB (by omega) q]
          exact ih (e + 1) (by omega)
  have loopF : fgB (b p) → ∀ (m : Nat) (e : Int), 0 ≤ e ∧ e + m = L → Co G l mX3_endOfToken 2 0 0 0 0 24 [some (.ref (o + 108)), some (vI p), some (vI (b p)), some (vI e)] [] h (eI (eF9 b e) h) := by
    intro hl m
    have hl2 : ¬ ltB (b p) := by omega
    induction m with
    | zero =>
      intro e he
      have hbe := hB.2.2 e (by omega)
      refine co_iload_n dX3_endOfToken_24 rfl ?_
      refine co_aload_n dX3_endOfToken_25 rfl ?_
      refine r_getI dX3_endOfToken_26 hX.R.1 ?_
      refine co_icmp_ge (tgt := 95) dX3_endOfToken_29 rfl (by omega) (by omega) (fun c29 => ?_) (fun c29 => ?_)
      rotate_left
      · exact absurd c29 (by omega)
      refine co_iload_n dX3_endOfToken_95 rfl ?_
      exact co_ireturn dX3_endOfToken_96 rfl (eI_of (eF9_n (by omega)).symm rfl)
    | succ m ih =>
      intro e he
      have hbe := hB.r (i := e) (by omega)
      refine co_iload_n dX3_endOfToken_24 rfl ?_
      refine co_aload_n dX3_endOfToken_25 rfl ?_
      refine r_getI dX3_endOfToken_26 hX.R.1 ?_
      refine co_icmp_ge (tgt := 95) dX3_endOfToken_29 rfl (by first | omega | (split <;> omega)) (by first | omega | (split <;> omega)) (fun c29 => ?_) (fun c29 => ?_)
      · exact absurd c29 (by omega)
      refine co_iload_n dX3_endOfToken_32 rfl ?_
      refine c_sI dX3_endOfToken_33 (ev_X3_isLetter (by omega)) (by decide) rfl rfl (Nat.le_of_ble_eq_true rfl) ?_
      refine co_if_eq (tgt := 53) dX3_endOfToken_36 rfl (by first | omega | (split <;> omega)) (fun c36 => ?_) (fun c36 => ?_)
      · refine co_aload_n dX3_endOfToken_53 rfl ?_
        refine co_iload_n dX3_endOfToken_54 rfl ?_
        refine c_vI dX3_endOfToken_55 (ev_X3_byteAt ⟨hX, eL, hB, hb⟩ (i := e) (by omega)) (by decide) hX.R.1 rfl rfl (Nat.le_of_ble_eq_true rfl) ?_
        refine c_sI dX3_endOfToken_58 (ev_X3_isDigit (by omega)) (by decide) rfl rfl (Nat.le_of_ble_eq_true rfl) ?_
        refine co_if_eq (tgt := 95) dX3_endOfToken_61 rfl (by first | omega | (split <;> omega)) (fun c61 => ?_) (fun c61 => ?_)
        · refine co_iload_n dX3_endOfToken_95 rfl ?_
          refine co_ireturn dX3_endOfToken_96 rfl ?_
          have q : ¬ fgB (b e) := fun z => by rw [if_pos z] at c61; omega
          exact ⟨by rw [eF9_n q], rfl⟩
        · refine s_iinc (ls' := [_, _, _, _]) dX3_endOfToken_64 rfl (Nat.le_of_ble_eq_true rfl) rfl rfl ?_
          refine co_goto (tgt := 24) dX3_endOfToken_67 rfl ?_
          have q : fgB (b e) := Classical.byContradiction (fun z => by rw [if_neg z] at c61; omega)
          rw [eF9_y hB (by omega) q]
          exact ih (e + 1) (by omega)
      · refine co_aload_n dX3_endOfToken_39 rfl ?_
        refine co_iload_n dX3_endOfToken_40 rfl ?_
        refine c_vI dX3_endOfToken_41 (ev_X3_byteAt ⟨hX, eL, hB, hb⟩ (i := e) (by omega)) (by decide) hX.R.1 rfl rfl (Nat.le_of_ble_eq_true rfl) ?_
        refine c_sI dX3_endOfToken_44 (ev_X3_isLetter (by omega)) (by decide) rfl rfl (Nat.le_of_ble_eq_true rfl) ?_
        refine co_if_eq (tgt := 95) dX3_endOfToken_47 rfl (by first | omega | (split <;> omega)) (fun c47 => ?_) (fun c47 => ?_)
        · refine co_iload_n dX3_endOfToken_95 rfl ?_
          refine co_ireturn dX3_endOfToken_96 rfl ?_
          exact absurd c36 (by rw [if_neg hl2]; omega)
        · refine co_goto (tgt := 64) dX3_endOfToken_50 rfl ?_
          refine s_iinc (ls' := [_, _, _, _]) dX3_endOfToken_64 rfl (Nat.le_of_ble_eq_true rfl) rfl rfl ?_
          refine co_goto (tgt := 24) dX3_endOfToken_67 rfl ?_
          exact absurd c36 (by rw [if_neg hl2]; omega)
  refine co_aload_n dX3_endOfToken_0 rfl ?_
  refine co_iload_n dX3_endOfToken_1 rfl ?_
  refine c_vI dX3_endOfToken_2 (ev_X3_byteAt ⟨hX, eL, hB, hb⟩ (i := p) (by omega)) (by decide) hX.R.1 rfl rfl (Nat.le_of_ble_eq_true rfl) ?_
  refine s_istore_n (ls' := [_, _, _, _]) dX3_endOfToken_5 (Nat.le_of_ble_eq_true rfl) rfl rfl ?_
  refine co_iload_n dX3_endOfToken_6 rfl ?_
  refine co_iconst dX3_endOfToken_7 ?_
  refine co_iadd dX3_endOfToken_8 ?_
  refine s_istore_n (ls' := [_, _, _, _]) dX3_endOfToken_9 (Nat.le_of_ble_eq_true rfl) rfl rfl ?_
  refine co_iload_n dX3_endOfToken_10 rfl ?_
  refine c_sI dX3_endOfToken_11 (ev_X3_isLetter (by omega)) (by decide) rfl rfl (Nat.le_of_ble_eq_true rfl) ?_
  refine co_if_ne (tgt := 24) dX3_endOfToken_14 rfl (by first | omega | (split <;> omega)) (fun c14 => ?_) (fun c14 => ?_)
  · have hd : ltB (b p) := Classical.byContradiction (fun z => by rw [if_neg z] at c14; omega)
    have et : tE b p = eW9 b p := by unfold tE; rw [if_neg (by omega), if_neg (by omega), if_pos hd]; rfl
    rw [et, eW9_y hB (by omega) hd]
    exact loopW hd (L - (p + 1)).toNat (p + 1) (by omega)
  · refine co_iload_n dX3_endOfToken_17 rfl ?_
    refine c_sI dX3_endOfToken_18 (ev_X3_isDigit (by omega)) (by decide) rfl rfl (Nat.le_of_ble_eq_true rfl) ?_
    refine co_if_eq (tgt := 70) dX3_endOfToken_21 rfl (by first | omega | (split <;> omega)) (fun c21 => ?_) (fun c21 => ?_)
    · refine co_iload_n dX3_endOfToken_70 rfl ?_
      refine co_bipush (z := 60) dX3_endOfToken_71 rfl ?_
      refine co_icmp_eq (tgt := 82) dX3_endOfToken_73 rfl (by first | omega | (split <;> omega)) (by first | omega | (split <;> omega)) (fun c73 => ?_) (fun c73 => ?_)
      · refine co_aload_n dX3_endOfToken_82 rfl ?_
        refine co_iload_n dX3_endOfToken_83 rfl ?_
        refine c_vI dX3_endOfToken_84 (ev_X3_byteAt ⟨hX, eL, hB, hb⟩ (i := p + 1) (by omega)) (by decide) hX.R.1 rfl rfl (Nat.le_of_ble_eq_true rfl) ?_
        refine co_bipush (z := 61) dX3_endOfToken_87 rfl ?_
        refine co_icmp_ne (tgt := 95) dX3_endOfToken_89 rfl (by first | omega | (split <;> omega)) (by first | omega | (split <;> omega)) (fun c89 => ?_) (fun c89 => ?_)
        · refine co_iload_n dX3_endOfToken_95 rfl ?_
          refine co_ireturn dX3_endOfToken_96 rfl ?_
          have n1 : ¬ ltB (b p) := fun z => by rw [if_pos z] at c14; omega
          have n2 : ¬ fgB (b p) := fun z => by rw [if_pos z] at c21; omega
          have et : tE b p = p + 1 := by unfold tE; rw [if_neg (by omega), if_neg n2, if_neg n1, if_neg (by omega)]
          exact ⟨by rw [et], rfl⟩
        · refine s_iinc (ls' := [_, _, _, _]) dX3_endOfToken_92 rfl (Nat.le_of_ble_eq_true rfl) rfl rfl ?_
          refine co_iload_n dX3_endOfToken_95 rfl ?_
          refine co_ireturn dX3_endOfToken_96 rfl ?_
          have n1 : ¬ ltB (b p) := fun z => by rw [if_pos z] at c14; omega
          have n2 : ¬ fgB (b p) := fun z => by rw [if_pos z] at c21; omega
          have et : tE b p = p + 1 + 1 := by unfold tE; rw [if_neg (by omega), if_neg n2, if_neg n1, if_pos (by omega)]; omega
          exact ⟨by rw [et], rfl⟩
      · refine co_iload_n dX3_endOfToken_76 rfl ?_
        refine co_bipush (z := 62) dX3_endOfToken_77 rfl ?_
        refine co_icmp_ne (tgt := 95) dX3_endOfToken_79 rfl (by first | omega | (split <;> omega)) (by first | omega | (split <;> omega)) (fun c79 => ?_) (fun c79 => ?_)
        · refine co_iload_n dX3_endOfToken_95 rfl ?_
          refine co_ireturn dX3_endOfToken_96 rfl ?_
          have n1 : ¬ ltB (b p) := fun z => by rw [if_pos z] at c14; omega
          have n2 : ¬ fgB (b p) := fun z => by rw [if_pos z] at c21; omega
          have et : tE b p = p + 1 := by unfold tE; rw [if_neg (by omega), if_neg n2, if_neg n1, if_neg (by omega)]
          exact ⟨by rw [et], rfl⟩
        · refine co_aload_n dX3_endOfToken_82 rfl ?_
          refine co_iload_n dX3_endOfToken_83 rfl ?_
          refine c_vI dX3_endOfToken_84 (ev_X3_byteAt ⟨hX, eL, hB, hb⟩ (i := p + 1) (by omega)) (by decide) hX.R.1 rfl rfl (Nat.le_of_ble_eq_true rfl) ?_
          refine co_bipush (z := 61) dX3_endOfToken_87 rfl ?_
          refine co_icmp_ne (tgt := 95) dX3_endOfToken_89 rfl (by first | omega | (split <;> omega)) (by first | omega | (split <;> omega)) (fun c89 => ?_) (fun c89 => ?_)
          · refine co_iload_n dX3_endOfToken_95 rfl ?_
            refine co_ireturn dX3_endOfToken_96 rfl ?_
            have n1 : ¬ ltB (b p) := fun z => by rw [if_pos z] at c14; omega
            have n2 : ¬ fgB (b p) := fun z => by rw [if_pos z] at c21; omega
            have et : tE b p = p + 1 := by unfold tE; rw [if_neg (by omega), if_neg n2, if_neg n1, if_neg (by omega)]
            exact ⟨by rw [et], rfl⟩
          · refine s_iinc (ls' := [_, _, _, _]) dX3_endOfToken_92 rfl (Nat.le_of_ble_eq_true rfl) rfl rfl ?_
            refine co_iload_n dX3_endOfToken_95 rfl ?_
            refine co_ireturn dX3_endOfToken_96 rfl ?_
            have n1 : ¬ ltB (b p) := fun z => by rw [if_pos z] at c14; omega
            have n2 : ¬ fgB (b p) := fun z => by rw [if_pos z] at c21; omega
            have et : tE b p = p + 1 + 1 := by unfold tE; rw [if_neg (by omega), if_neg n2, if_neg n1, if_pos (by omega)]; omega
            exact ⟨by rw [et], rfl⟩
    · have hd : fgB (b p) := Classical.byContradiction (fun z => by rw [if_neg z] at c21; omega)
      have et : tE b p = eF9 b p := by unfold tE; rw [if_neg (by omega), if_pos hd]; rfl
      rw [et, eF9_y hB (by omega) hd]
      exact loopF hd (L - (p + 1)).toNat (p + 1) (by omega)
set_option maxRecDepth 20000 in
theorem ev_X3_valueOf {G : gG} {l : Launch} {h : ph} {o : Nat} {b : Int → Int} {L : Int} {p e : Int} (R : RbC h o b L) (hp : 0 ≤ p ∧ p ≤ e) (he : e ≤ L) : Ev G l mX3_valueOf 1 0 0 [.ref (o + 108), vI p, vI e] h (eI (it (vlF b) (e - p).toNat p 0) h) := by
  obtain ⟨hX, eL, hB, hb⟩ := R
  have hL := hB.1
  refine ev_of (ls := [some (.ref (o + 108)), some (vI p), some (vI e), none, none]) (by decide +kernel) (Nat.le_of_ble_eq_true rfl) rfl ?_
  have loop : ∀ (m : Nat) (i v : Int), 0 ≤ i ∧ i + m = e → 0 ≤ v ∧ v ≤ 10000 → Co G l mX3_valueOf 1 0 0 0 0 5 [some (.ref (o + 108)), some (vI p), some (vI e), some (vI v), some (vI i)] [] h (eI (it (vlF b) m i v) h) := by
    intro m
    induction m with
    | zero =>
      intro i v hi hv
      refine co_iload dX3_valueOf_5 rfl ?_
      refine co_iload_n dX3_valueOf_7 rfl ?_
      refine co_icmp_ge (tgt := 42) dX3_valueOf_8 rfl (by omega) (by omega) (fun c8 => ?_) (fun c8 => ?_)
      rotate_left
      · exact absurd c8 (by omega)
      refine co_iload_n dX3_valueOf_42 rfl ?_
      exact co_ireturn dX3_valueOf_43 rfl ⟨rfl, rfl⟩
    | succ m ih =>
      intro i v hi hv
      have hbi := hB.r (i := i) (by omega)
      refine co_iload dX3_valueOf_5 rfl ?_
      refine co_iload_n dX3_valueOf_7 rfl ?_
      refine co_icmp_ge (tgt := 42) dX3_valueOf_8 rfl (by omega) (by omega) (fun c8 => ?_) (fun c8 => ?_)
      · exact absurd c8 (by omega)
      refine co_sipush (z := 10000) dX3_valueOf_11 rfl ?_
      refine co_iload_n dX3_valueOf_14 rfl ?_
      refine co_bipush (z := 10) dX3_valueOf_15 rfl ?_
      refine co_imul dX3_valueOf_17 ?_
      refine co_iconst dX3_valueOf_18 ?_
      refine co_aload_n dX3_valueOf_19 rfl ?_
      refine co_iload dX3_valueOf_20 rfl ?_
      refine c_vI dX3_valueOf_22 (ev_X3_byteAt ⟨hX, eL, hB, hb⟩ (i := i) (by omega)) (by decide) hX.R.1 rfl rfl (Nat.le_of_ble_eq_true rfl) ?_
      refine co_bipush (z := 48) dX3_valueOf_25 rfl ?_
      refine co_isub dX3_valueOf_27 ?_
      refine r_maxI dX3_valueOf_28 (by decide) (Nat.le_of_ble_eq_true rfl) (by omega) (by omega) ?_
      refine co_iadd dX3_valueOf_31 ?_
      refine r_minI dX3_valueOf_32 (by decide) (Nat.le_of_ble_eq_true rfl) (by omega) (by omega) ?_
      refine s_istore_n (ls' := [_, _, _, _, _]) dX3_valueOf_35 (Nat.le_of_ble_eq_true rfl) rfl rfl ?_
      refine s_iinc (ls' := [_, _, _, _, _]) dX3_valueOf_36 rfl (Nat.le_of_ble_eq_true rfl) rfl rfl ?_
      refine co_goto (tgt := 5) dX3_valueOf_39 rfl ?_
      exact ih (i + 1) _ (by omega) (by omega)
  refine co_iconst dX3_valueOf_0 ?_
  refine s_istore_n (ls' := [_, _, _, _, _]) dX3_valueOf_1 (Nat.le_of_ble_eq_true rfl) rfl rfl ?_
  refine co_iload_n dX3_valueOf_2 rfl ?_
  refine s_istore (ls' := [_, _, _, _, _]) dX3_valueOf_3 (Nat.le_of_ble_eq_true rfl) rfl rfl ?_
  exact loop (e - p).toNat p 0 (by omega) (by decide)
