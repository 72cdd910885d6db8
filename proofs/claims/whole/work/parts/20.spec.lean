-- ===== pure words: bits, searches =====
theorem eI_of {z z' : Int} {h h' : ph} (e : z = z') (e2 : h = h') : eI z' h' (some (vI z)) h := ⟨by rw [e], e2⟩
theorem eL_of {z z' : Int} {h h' : ph} (e : z = z') (e2 : h = h') : eL z' h' (some (vL z)) h := ⟨by rw [e], e2⟩
theorem eV_of {h h' : ph} (e2 : h = h') : eV h' none h := ⟨rfl, e2⟩
theorem it_n {b : Bool} : (¬ (if b = true then (1 : Int) else 0) = 0) ↔ b = true := by cases b <;> simp
theorem it_z {b : Bool} : ((if b = true then (1 : Int) else 0) = 0) ↔ b = false := by cases b <;> simp
theorem iI_nat (n : Nat) : iI (n : Int) = nI n := rfl
theorem nI_toI {n : Nat} (h : n < 2147483648) : (nI n).toInt = (n : Int) := nI_toInt (by omega)
theorem zand_nat {a b : Nat} (ha : a < 2147483648) (hb : b < 2147483648) : zand a b = ((a &&& b : Nat) : Int) := by
  unfold zand
  rw [iI_nat, iI_nat]
  have e : nI a &&& nI b = nI (a &&& b) := by
    apply Int32.toBitVec_inj.mp
    apply BitVec.eq_of_toNat_eq
    have h1 : a &&& b ≤ a := Nat.and_le_left
    rw [Int32.toBitVec_and, BitVec.toNat_and, pk_tn (by omega), pk_tn (by omega), pk_tn (by omega)]
  rw [e, nI_toI]
  have h1 : a &&& b ≤ a := Nat.and_le_left
  omega
theorem zor_nat {a b : Nat} (ha : a < 1073741824) (hb : b < 1073741824) : zor a b = ((a ||| b : Nat) : Int) := by
  unfold zor
  rw [iI_nat, iI_nat]
  have h1 : a ||| b < 2 ^ 30 := Nat.or_lt_two_pow (by omega) (by omega)
  have e : nI a ||| nI b = nI (a ||| b) := by
    apply Int32.toBitVec_inj.mp
    apply BitVec.eq_of_toNat_eq
    rw [Int32.toBitVec_or, BitVec.toNat_or, pk_tn (by omega), pk_tn (by omega), pk_tn (by omega)]
  rw [e, nI_toI]
  omega
theorem zshl_1 {k : Nat} (hk : k < 31) : zshl 1 k = ((2 ^ k : Nat) : Int) := by
  have : ∀ j : Fin 31, zshl 1 (j.val : Int) = ((2 ^ j.val : Nat) : Int) := by decide +kernel
  exact this ⟨k, hk⟩
theorem zshr_nat {a k : Nat} (ha : a < 2147483648) (hk : k < 32) : zshr a k = ((a / 2 ^ k : Nat) : Int) := by
  unfold zshr
  rw [iI_nat, iI_nat]
  have hs : ((nI k &&& 31).toBitVec.smod 32).toNat = k := by
    have : ∀ j : Fin 32, ((nI j.val &&& 31).toBitVec.smod 32).toNat = j.val := by decide +kernel
    exact this ⟨k, hk⟩
  rw [pk_shrN (by omega) _ k hs, nI_toI]
  have : a / 2 ^ k ≤ a := Nat.div_le_self _ _
  omega
theorem and_1 (a : Nat) : a &&& 1 = a % 2 := Nat.and_one_is_mod a
/-- the bit k of a set -/
def bit (s k : Int) : Int := s / (2 ^ k.toNat : Int) % 2
theorem bit_nat (a k : Nat) : bit a k = ((a / 2 ^ k % 2 : Nat) : Int) := by
  unfold bit
  simp
theorem bit_01 (s k : Int) : bit s k = 0 ∨ bit s k = 1 := by
  unfold bit
  omega
theorem zbit {s k : Int} (hs : 0 ≤ s ∧ s < 2147483648) (hk : 0 ≤ k ∧ k < 32) : zand (zshr s k) 1 = bit s k := by
  obtain ⟨a, rfl⟩ := Int.eq_ofNat_of_zero_le hs.1
  obtain ⟨j, rfl⟩ := Int.eq_ofNat_of_zero_le hk.1
  have h1 : a / 2 ^ j ≤ a := Nat.div_le_self _ _
  rw [zshr_nat (by omega) (by omega), show (1 : Int) = ((1 : Nat) : Int) from rfl, zand_nat (by omega) (by omega), and_1, bit_nat]
/-- how many bits -/
def pcF : Nat → Nat → Nat
  | 0, _ => 0
  | f + 1, n => n % 2 + pcF f (n / 2)
def pcN (n : Nat) : Nat := pcF 10 n
theorem pcN_step : ∀ n : Fin 1024, n.val ≠ 0 → pcN (n.val &&& (n.val - 1)) + 1 = pcN n.val ∧ n.val &&& (n.val - 1) < n.val := by decide +kernel
theorem pcN_0 : pcN 0 = 0 := rfl
theorem pcN_le : ∀ n : Fin 1024, pcN n.val ≤ 10 := by decide +kernel
def pcZ (s : Int) : Int := (pcN s.toNat : Int)
/-- the first place from i on where p holds, of n places; else -1 -/
def fnd (p : Int → Bool) : Nat → Int → Int
  | 0, _ => -1
  | n + 1, i => if p i = true then i else fnd p n (i + 1)
theorem fnd_rng (p : Int → Bool) : ∀ (n : Nat) (i : Int), fnd p n i = -1 ∨ (i ≤ fnd p n i ∧ fnd p n i < i + n) := by
  intro n
  induction n with
  | zero => intro i; exact Or.inl rfl
  | succ n ih =>
    intro i
    unfold fnd
    by_cases h : p i = true
    · rw [if_pos h]; right; omega
    · rw [if_neg h]
      rcases ih (i + 1) with e | e
      · exact Or.inl e
      · right; omega
/-- a set built from place i on, n places: those at which p holds -/
def bsF (p : Int → Bool) : Nat → Int → Int → Int
  | 0, _, acc => acc
  | n + 1, i, acc => bsF p n (i + 1) (if p i = true then acc + 2 ^ i.toNat else acc)
/-- the set of the places below n at which p holds -/
def bsN (p : Int → Bool) : Nat → Nat
  | 0 => 0
  | n + 1 => bsN p n + (if p n = true then 2 ^ n else 0)
theorem bsN_lt (p : Int → Bool) : ∀ n : Nat, bsN p n < 2 ^ n := by
  intro n
  induction n with
  | zero => simp [bsN]
  | succ n ih =>
    unfold bsN
    by_cases h : p n = true
    · rw [if_pos h, Nat.pow_succ]; omega
    · rw [if_neg h, Nat.pow_succ]; omega
theorem bsN_congr {p q : Int → Bool} : ∀ n : Nat, (∀ k : Nat, k < n → p k = q k) → bsN p n = bsN q n := by
  intro n
  induction n with
  | zero => intro _; rfl
  | succ n ih =>
    intro h
    unfold bsN
    rw [ih (fun k hk => h k (by omega)), h n (by omega)]
theorem or_pow {a n : Nat} (h : a < 2 ^ n) : a ||| 2 ^ n = a + 2 ^ n := by
  have := Nat.two_pow_add_eq_or_of_lt h 1
  rw [Nat.mul_one] at this
  rw [Nat.or_comm, ← this, Nat.add_comm]
theorem bsN_or (p : Int → Bool) {n : Nat} (hn : n < 30) (hp : p n = true) : zor (bsN p n) (zshl 1 n) = ((bsN p (n + 1) : Nat) : Int) := by
  have h1 := bsN_lt p n
  have h2 : 2 ^ n ≤ 2 ^ 29 := Nat.pow_le_pow_right (by decide) (by omega)
  rw [zshl_1 (by omega), zor_nat (by omega) (by omega), or_pow h1, bsN, if_pos hp]
theorem bsN_or0 (p : Int → Bool) {n : Nat} (hn : n < 30) (hp : ¬ p n = true) : zor (bsN p n) 0 = ((bsN p (n + 1) : Nat) : Int) := by
  have h1 := bsN_lt p n
  have h2 : 2 ^ n ≤ 2 ^ 29 := Nat.pow_le_pow_right (by decide) (by omega)
  rw [show (0 : Int) = ((0 : Nat) : Int) from rfl, zor_nat (by omega) (by omega), bsN, if_neg hp]
  simp
theorem bsN_bit (p : Int → Bool) : ∀ (n k : Nat), k < n → bsN p n / 2 ^ k % 2 = if p k = true then 1 else 0 := by
  intro n
  induction n with
  | zero => intro k h; omega
  | succ n ih =>
    intro k h
    have hl := bsN_lt p n
    by_cases e : k = n
    · subst e
      rw [bsN]
      by_cases hp : p k = true
      · rw [if_pos hp, if_pos hp, Nat.add_div_right _ (Nat.two_pow_pos k), Nat.div_eq_of_lt hl]
      · rw [if_neg hp, if_neg hp, Nat.add_zero, Nat.div_eq_of_lt hl]
    · have hk : k < n := by omega
      rw [bsN]
      by_cases hp : p n = true
      · rw [if_pos hp]
        have e2 : 2 ^ n = 2 ^ k * (2 * 2 ^ (n - k - 1)) := by
          rw [← Nat.pow_succ', ← Nat.pow_add]
          congr 1
          omega
        rw [e2, Nat.add_mul_div_left _ _ (Nat.two_pow_pos k), Nat.add_mul_mod_self_left]
        exact ih k hk
      · rw [if_neg hp, Nat.add_zero]
        exact ih k hk
