-- ===== sets of bits =====
theorem tb_bsN (p : Int → Bool) (n k : Nat) : (bsN p n).testBit k = (decide (k < n) && p k) := by
  rw [Nat.testBit_eq_decide_div_mod_eq]
  by_cases h : k < n
  · rw [bsN_bit p n k h]
    cases hp : p k <;> simp [h]
  · have h1 := bsN_lt p n
    have h2 : 2 ^ n ≤ 2 ^ k := Nat.pow_le_pow_right (by decide) (by omega)
    rw [Nat.div_eq_of_lt (by omega)]
    simp [h]
theorem bsN_ext {p q : Int → Bool} {n m : Nat} (h : ∀ k : Nat, (decide (k < n) && p k) = (decide (k < m) && q k)) : bsN p n = bsN q m := by
  apply Nat.eq_of_testBit_eq
  intro k
  rw [tb_bsN, tb_bsN]
  exact h k
theorem bsN_and (p q : Int → Bool) (n : Nat) : bsN p n &&& bsN q n = bsN (fun x => p x && q x) n := by
  apply Nat.eq_of_testBit_eq
  intro k
  rw [Nat.testBit_and, tb_bsN, tb_bsN, tb_bsN]
  cases decide (k < n) <;> cases p k <;> cases q k <;> rfl
theorem bsN_orS (p : Int → Bool) {n x : Nat} (hx : x < n) : bsN p n ||| 2 ^ x = bsN (fun y => p y || (y == (x : Int))) n := by
  apply Nat.eq_of_testBit_eq
  intro k
  rw [Nat.testBit_or, tb_bsN, tb_bsN, Nat.testBit_two_pow]
  by_cases e : x = k
  · subst e; simp [hx]
  · have : ((k : Int) == (x : Int)) = false := beq_eq_false_iff_ne.mpr (by omega)
    simp [e, this]
theorem bsN_false (n : Nat) : bsN (fun _ => false) n = 0 := by
  induction n with
  | zero => rfl
  | succ n ih => unfold bsN; rw [ih]; rfl
theorem bsN_8 (p : Int → Bool) (h : ∀ x : Int, 8 ≤ x → p x = false) {n : Nat} (hn : 8 ≤ n) : bsN p n = bsN p 8 := by
  apply bsN_ext
  intro k
  by_cases e : k < 8
  · have : k < n := by omega
    simp [e, this]
  · rw [h k (by omega)]; simp
theorem zorS (p : Int → Bool) {n : Nat} {x : Int} (hn : n ≤ 29) (hx : 0 ≤ x ∧ x < n) : zor (bsN p n) (zshl 1 x) = ((bsN (fun y => p y || (y == x)) n : Nat) : Int) := by
  obtain ⟨k, rfl⟩ := Int.eq_ofNat_of_zero_le hx.1
  have h1 := bsN_lt p n
  have h2 : 2 ^ n ≤ 2 ^ 29 := Nat.pow_le_pow_right (by decide) hn
  have h3 : 2 ^ k ≤ 2 ^ 29 := Nat.pow_le_pow_right (by decide) (by omega)
  rw [zshl_1 (by omega), zor_nat (by omega) (by omega), bsN_orS p (by omega)]
theorem zandS (p q : Int → Bool) {n : Nat} (hn : n ≤ 29) : zand (bsN p n) (bsN q n) = ((bsN (fun x => p x && q x) n : Nat) : Int) := by
  have h1 := bsN_lt p n
  have h3 := bsN_lt q n
  have h2 : 2 ^ n ≤ 2 ^ 29 := Nat.pow_le_pow_right (by decide) hn
  rw [zand_nat (by omega) (by omega), bsN_and]
theorem zdel_all : ∀ (s : Fin 256) (x : Fin 8), zand s.val (zxor (zshl 1 x.val) (-1)) = ((s.val &&& (255 - 2 ^ x.val) : Nat) : Int) := by decide +kernel
theorem tb_255 : ∀ (x k : Fin 8), (255 - 2 ^ x.val).testBit k.val = (k.val != x.val) := by decide +kernel
theorem zdelS (p : Int → Bool) {n : Nat} {x : Int} (hn : n ≤ 8) (hx : 0 ≤ x ∧ x < 8) : zand (bsN p n) (zxor (zshl 1 x) (-1)) = ((bsN (fun y => p y && (y != x)) n : Nat) : Int) := by
  obtain ⟨k, rfl⟩ := Int.eq_ofNat_of_zero_le hx.1
  have h1 := bsN_lt p n
  have h2 : 2 ^ n ≤ 2 ^ 8 := Nat.pow_le_pow_right (by decide) hn
  have e := zdel_all ⟨bsN p n, by omega⟩ ⟨k, by omega⟩
  simp only at e
  rw [e]
  congr 1
  apply Nat.eq_of_testBit_eq
  intro j
  rw [Nat.testBit_and, tb_bsN, tb_bsN]
  by_cases hj : j < n
  · have := tb_255 ⟨k, by omega⟩ ⟨j, by omega⟩
    simp only at this
    rw [this]
    have e2 : ((j : Int) != (k : Int)) = (j != k) := by
      by_cases q : j = k
      · subst q; simp
      · have q2 : ¬ (j : Int) = (k : Int) := by omega
        rw [show ((j : Int) != (k : Int)) = true from bne_iff_ne.mpr q2, show (j != k) = true from bne_iff_ne.mpr q]
    rw [e2, Bool.and_assoc]
  · simp [hj]
theorem bit_bsN (p : Int → Bool) {n : Nat} {x : Int} (hx : 0 ≤ x ∧ x < n) : bit (bsN p n) x = if p x = true then 1 else 0 := by
  obtain ⟨k, rfl⟩ := Int.eq_ofNat_of_zero_le hx.1
  rw [bit_nat, bsN_bit p n k (by omega)]
  split <;> rfl
theorem bit_hi (p : Int → Bool) {n : Nat} {x : Int} (hx : (n : Int) ≤ x) : bit (bsN p n) x = 0 := by
  obtain ⟨k, rfl⟩ := Int.eq_ofNat_of_zero_le (show 0 ≤ x by omega)
  have h1 := bsN_lt p n
  have h2 : 2 ^ n ≤ 2 ^ k := Nat.pow_le_pow_right (by decide) (by omega)
  rw [bit_nat, Nat.div_eq_of_lt (by omega)]
  rfl
theorem fnd_congr {p q : Int → Bool} : ∀ (n : Nat) (i : Int), (∀ x : Int, i ≤ x ∧ x < i + n → p x = q x) → fnd p n i = fnd q n i := by
  intro n
  induction n with
  | zero => intro i _; rfl
  | succ n ih =>
    intro i h
    unfold fnd
    rw [h i (by omega), ih (i + 1) (fun x hx => h x (by omega))]
theorem fnd_more {p : Int → Bool} : ∀ (n : Nat) (i : Int) (m : Nat), (∀ x : Int, i + n ≤ x ∧ x < i + n + m → p x = false) → fnd p (n + m) i = fnd p n i := by
  intro n
  induction n with
  | zero =>
    intro i m
    induction m generalizing i with
    | zero => intro _; rfl
    | succ m ih =>
      intro h
      rw [show 0 + (m + 1) = (0 + m) + 1 from rfl]
      unfold fnd
      rw [if_neg (by rw [h i (by omega)]; decide), ih (i + 1) (fun x hx => h x (by omega))]
      rfl
  | succ n ih =>
    intro i m h
    rw [show n + 1 + m = (n + m) + 1 by omega]
    unfold fnd
    rw [ih (i + 1) m (fun x hx => h x (by omega))]
theorem fnd_some {p : Int → Bool} : ∀ (n : Nat) (i : Int), fnd p n i ≠ -1 → p (fnd p n i) = true := by
  intro n
  induction n with
  | zero => intro i h; exact absurd rfl h
  | succ n ih =>
    intro i h
    unfold fnd at h ⊢
    by_cases e : p i = true
    · rw [if_pos e]; exact e
    · rw [if_neg e] at h ⊢; exact ih _ h
theorem fnd_none {p : Int → Bool} : ∀ (n : Nat) (i : Int), 0 ≤ i → fnd p n i = -1 → ∀ x : Int, i ≤ x ∧ x < i + n → p x = false := by
  intro n
  induction n with
  | zero => intro i _ h x hx; omega
  | succ n ih =>
    intro i hi h x hx
    unfold fnd at h
    by_cases e : p i = true
    · rw [if_pos e] at h; omega
    · rw [if_neg e] at h
      by_cases e2 : x = i
      · rw [e2]; simpa using e
      · exact ih (i + 1) (by omega) h x (by omega)
theorem fnd_first {p : Int → Bool} : ∀ (n : Nat) (i x : Int), i ≤ x ∧ x < i + n → p x = true → (∀ y : Int, i ≤ y ∧ y < x → p y = false) → fnd p n i = x := by
  intro n
  induction n with
  | zero => intro i x hx; omega
  | succ n ih =>
    intro i x hx hp hy
    unfold fnd
    by_cases e : x = i
    · rw [if_pos (by rw [← e]; exact hp)]; exact e.symm
    · rw [if_neg (by rw [hy i (by omega)]; decide)]
      exact ih (i + 1) x (by omega) hp (fun y h => hy y (by omega))
