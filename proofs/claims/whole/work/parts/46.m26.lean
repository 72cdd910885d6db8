-- ===== the tape as tokens =====
theorem ev_mono {G : gG} {l : Launch} {μ : MU} {d mc ms : Nat} {as : List Value} {h : ph} {Q Q' : Option Value → ph → Prop} (H : Ev G l μ d mc ms as h Q) (k : ∀ r h1, Q r h1 → Q' r h1) : Ev G l μ d mc ms as h Q' := by
  intro p e a1 a2 a3 s m args below b1 b2 b3 b4
  obtain ⟨n, oc, c1, c2, c3, c4, c5⟩ := H p e a1 a2 a3 s m args below b1 b2 b3 b4
  refine ⟨n, oc, c1, c2, c3, ?_, c5⟩
  obtain ⟨r, h', e1, e2, e3⟩ := c4
  exact ⟨r, h', e1, k _ _ e2, e3⟩
abbrev fgB (c : Int) : Prop := 48 ≤ c ∧ c ≤ 57
abbrev ltB (c : Int) : Prop := (97 ≤ c ∧ c ≤ 122) ∨ (65 ≤ c ∧ c ≤ 90)
/-- the token that begins at p: its sort by the reference's numbers, its end, its number, its word -/
def tT (b : Int → Int) (p : Int) : Int := if b p < 0 then 0 else if fgB (b p) then 1 else if ltB (b p) then 2 else if (b p = 60 ∨ b p = 62) ∧ b (p + 1) = 61 then (if b p = 60 then 4 else 5) else if isSgB (b p) = true then b p else 3
def tE (b : Int → Int) (p : Int) : Int := if b p < 0 then p else if fgB (b p) then (figF b 302 p 0).2 else if ltB (b p) then (wrdF b 302 p 0).2 else if (b p = 60 ∨ b p = 62) ∧ b (p + 1) = 61 then p + 2 else p + 1
def tN (b : Int → Int) (p : Int) : Int := (figF b 302 p 0).1
def tW (b : Int → Int) (p : Int) : Int := (wrdF b 302 p 0).1
def tP (b : Int → Int) : Nat → Int
  | 0 => skp b 302 0
  | i + 1 => skp b 302 (tE b (tP b i))
def tRk (b : Int → Int) (p : Int) : Bool := decide (tE b p = p + 7 ∧ (b p = 114 ∧ b (p + 1) = 111 ∧ b (p + 2) = 99 ∧ b (p + 3) = 107) ∧ (b (p + 4) = 105 ∧ b (p + 5) = 110 ∧ b (p + 6) = 103))
def wTb : List Int := [512801993331, 499985311091, 1936024942, 448546370405, 6451065, 465625246068, 470021402228, 7300710, 7301484, 1851877740, 120299592184933, 495672977012, 28526, 29807, 1936287598, 1650811252, 26982, 1952998766, 1701606245, 6647396, 28530, 6385252, 7237492, 469852583027, 1936617335, 2003132786, 491394458994, 1936292453, 499985311076, 7825519]
def ixL : List Int → Int → Nat
  | [], _ => 0
  | x :: l, w => if w = x then 0 else ixL l w + 1
theorem ixL_lt : ∀ (l : List Int) (w : Int), ixL l w < l.length → l[ixL l w]? = some w := by
  intro l
  induction l with
  | nil => intro w h; exact absurd h (by simp [ixL])
  | cons x l ih =>
    intro w h
    unfold ixL at h ⊢
    by_cases e : w = x
    · rw [if_pos e, e]; rfl
    · rw [if_neg e] at h ⊢
      rw [List.getElem?_cons_succ]
      exact ih w (by simpa using h)
def kW (w : Int) (r : Bool) : Int := if ixL wTb w < 30 then (ixL wTb w : Int) else if r = true then 30 else 46
theorem kW_r (w : Int) (r : Bool) : (0 ≤ kW w r ∧ kW w r ≤ 30) ∨ kW w r = 46 := by
  unfold kW
  split
  · omega
  · split <;> omega
theorem kW_at {w : Int} {r : Bool} {n : Nat} (hn : n < 30) (h : kW w r = n) : wTb[n]? = some w := by
  unfold kW at h
  split at h
  · rename_i q
    have e : ixL wTb w = n := by omega
    rw [← e]
    exact ixL_lt _ _ (by rw [show wTb.length = 30 from rfl]; exact q)
  · split at h <;> omega
/-- the class's number of a token's sort -/
def kO (t w : Int) (r : Bool) : Int := if t = 0 then 45 else if t = 1 then 31 else if t = 2 then kW w r else if t = 4 then 33 else if t = 5 then 35 else if t = 60 then 32 else if t = 62 then 34 else if t = 61 then 36 else if t = 35 then 37 else if t = 43 then 38 else if t = 45 then 39 else if t = 42 then 40 else if t = 47 then 41 else if t = 40 then 42 else if t = 41 then 43 else if t = 59 then 44 else 46
theorem kO_w {t w : Int} {r : Bool} {n : Int} (hn : 0 ≤ n ∧ n ≤ 30) (h : kO t w r = n) : t = 2 ∧ kW w r = n := by
  unfold kO at h
  by_cases e : t = 2
  · subst e
    exact ⟨rfl, h⟩
  · exfalso
    repeat' split at h
    all_goals omega
def tK (b : Int → Int) (p : Int) : Int := kO (tT b p) (tW b p) (tRk b p)
/-- a tape of L bytes -/
def TB (b : Int → Int) (L : Int) : Prop := (0 ≤ L ∧ L ≤ 300) ∧ (∀ i : Int, 0 ≤ i ∧ i < L → 0 ≤ b i ∧ b i ≤ 255) ∧ (∀ i : Int, L ≤ i → b i = -1)
theorem skp_TB {b : Int → Int} {L : Int} (hB : TB b L) : ∀ (f : Nat) (i : Int), 0 ≤ i ∧ i ≤ L → L < i + f → i ≤ skp b f i ∧ skp b f i ≤ L := by
  intro f
  induction f with
  | zero => intro i h1 h2; omega
  | succ f ih =>
    intro i h1 h2
    unfold skp
    split
    · rename_i q
      have : i < L := by
        by_cases e : i < L
        · exact e
        · have := hB.2.2 i (by omega); omega
      have := ih (i + 1) (by omega) (by omega)
      omega
    · omega
theorem figF_TB {b : Int → Int} {L : Int} (hB : TB b L) : ∀ (f : Nat) (i n : Int), 0 ≤ i ∧ i ≤ L → L < i + f → 0 ≤ n ∧ n ≤ 999999 → (i ≤ (figF b f i n).2 ∧ (figF b f i n).2 ≤ L) ∧ (0 ≤ (figF b f i n).1 ∧ (figF b f i n).1 ≤ 999999) := by
  intro f
  induction f with
  | zero => intro i n h1 h2; omega
  | succ f ih =>
    intro i n h1 h2 h3
    unfold figF
    split
    · rename_i q
      have : i < L := by
        by_cases e : i < L
        · exact e
        · have := hB.2.2 i (by omega); omega
      have := ih (i + 1) (if 99999 < n then n else 10 * n + b i - 48) (by omega) (by omega) (by split <;> omega)
      omega
    · simp only; omega
theorem wrdF_TB {b : Int → Int} {L : Int} (hB : TB b L) : ∀ (f : Nat) (i n : Int), 0 ≤ i ∧ i ≤ L → L < i + f → 0 ≤ n ∧ n ≤ 1152921504606846976 → (i ≤ (wrdF b f i n).2 ∧ (wrdF b f i n).2 ≤ L) ∧ (0 ≤ (wrdF b f i n).1 ∧ (wrdF b f i n).1 ≤ 1152921504606846976) := by
  intro f
  induction f with
  | zero => intro i n h1 h2; omega
  | succ f ih =>
    intro i n h1 h2 h3
    unfold wrdF
    split
    · rename_i q
      have : i < L := by
        by_cases e : i < L
        · exact e
        · have := hB.2.2 i (by omega); omega
      have := ih (i + 1) (if 281474976710656 ≤ n then 1152921504606846976 else 256 * n + b i) (by omega) (by omega) (by split <;> omega)
      omega
    · simp only; omega
theorem tE_TB {b : Int → Int} {L : Int} (hB : TB b L) {p : Int} (hp : 0 ≤ p ∧ p ≤ L) : p ≤ tE b p ∧ tE b p ≤ L := by
  have hL := hB.1
  unfold tE
  split
  · omega
  · rename_i q
    have hpL : p < L := by
      by_cases e : p < L
      · exact e
      · have := hB.2.2 p (by omega); omega
    split
    · have := figF_TB hB 302 p 0 hp (by omega) (by decide); omega
    · split
      · have := wrdF_TB hB 302 p 0 hp (by omega) (by decide); omega
      · split
        · rename_i q2
          have : p + 1 < L := by
            by_cases e : p + 1 < L
            · exact e
            · have := hB.2.2 (p + 1) (by omega); omega
          omega
        · omega
theorem tP_TB {b : Int → Int} {L : Int} (hB : TB b L) : ∀ i : Nat, 0 ≤ tP b i ∧ tP b i ≤ L := by
  intro i
  have hL := hB.1
  induction i with
  | zero => have := skp_TB hB 302 0 (by omega) (by omega); unfold tP; omega
  | succ i ih =>
    have h1 := tE_TB hB ih
    have := skp_TB hB 302 (tE b (tP b i)) (by omega) (by omega)
    unfold tP
    omega
theorem tT_r {b : Int → Int} {L : Int} (hB : TB b L) {p : Int} (hp : 0 ≤ p) : 0 ≤ tT b p ∧ tT b p ≤ 255 := by
  unfold tT
  split
  · decide
  · rename_i q
    have hpL : p < L := by
      by_cases e : p < L
      · exact e
      · have := hB.2.2 p (by omega); omega
    have := hB.2.1 p ⟨hp, hpL⟩
    repeat' split
    all_goals omega
/-- the reference while it reads: its fields f, its word w, its texts t, its pile p -/
def mH (h : ph) (o : Nat) (f : Int → Int) (w : Int) (t p : Int → Int) : ph := (h.1, h.2.1, u2 (u2 (u2 h.2.2.1 o f) (o + 3) t) (o + 5) p, u2 h.2.2.2.1 o (u1 (hJ h o) 11 w), h.2.2.2.2)
section HHH
variable {h : ph} {o : Nat} {f t p : Int → Int} {w : Int}
theorem mH_0 : hI (mH h o f w t p) o = f := by
  show u2 (u2 (u2 h.2.2.1 o f) (o + 3) t) (o + 5) p o = f
  rw [u2_n _ _ (by omega), u2_n _ _ (by omega), u2_s]
theorem mH_3 : hI (mH h o f w t p) (o + 3) = t := by
  show u2 (u2 (u2 h.2.2.1 o f) (o + 3) t) (o + 5) p (o + 3) = t
  rw [u2_n _ _ (by omega), u2_s]
theorem mH_5 : hI (mH h o f w t p) (o + 5) = p := u2_s _ _ _
theorem mH_n {q : Nat} (h0 : q ≠ o) (h3 : q ≠ o + 3) (h5 : q ≠ o + 5) : hI (mH h o f w t p) q = hI h q := by
  show u2 (u2 (u2 h.2.2.1 o f) (o + 3) t) (o + 5) p q = _
  rw [u2_n _ _ h5, u2_n _ _ h3, u2_n _ _ h0]
theorem mH_J : hJ (mH h o f w t p) o 11 = w := by
  show u2 h.2.2.2.1 o (u1 (hJ h o) 11 w) o 11 = w
  rw [u2_s, u1_s]
theorem mH_M (hM : isM h o) : isM (mH h o f w t p) o := hM
theorem ph_x {a b : ph} (h1 : a.1 = b.1) (h2 : a.2.1 = b.2.1) (h3 : ∀ q, hI a q = hI b q) (h4 : hJ a = hJ b) (h5 : hR a = hR b) : a = b := by
  obtain ⟨a1, a2, a3, a4, a5⟩ := a
  obtain ⟨b1, b2, b3, b4, b5⟩ := b
  have e3 : a3 = b3 := funext h3
  simp only at h1 h2 h4 h5
  subst h1 h2 e3
  cases h4
  cases h5
  rfl
theorem mH_s0 (j v : Int) : sI (mH h o f w t p) o j v = mH h o (u1 f j v) w t p := by
  refine ph_x rfl rfl (fun q => ?_) rfl rfl
  by_cases e : q = o
  · subst e; rw [hI_sI_s, mH_0, mH_0]
  · rw [hI_sI_n _ _ _ e]
    by_cases e3 : q = o + 3
    · subst e3; rw [mH_3, mH_3]
    · by_cases e5 : q = o + 5
      · subst e5; rw [mH_5, mH_5]
      · rw [mH_n e e3 e5, mH_n e e3 e5]
theorem mH_s3 (j v : Int) : sI (mH h o f w t p) (o + 3) j v = mH h o f w (u1 t j v) p := by
  refine ph_x rfl rfl (fun q => ?_) rfl rfl
  by_cases e3 : q = o + 3
  · subst e3; rw [hI_sI_s, mH_3, mH_3]
  · rw [hI_sI_n _ _ _ e3]
    by_cases e : q = o
    · subst e; rw [mH_0, mH_0]
    · by_cases e5 : q = o + 5
      · subst e5; rw [mH_5, mH_5]
      · rw [mH_n e e3 e5, mH_n e e3 e5]
theorem mH_s5 (j v : Int) : sI (mH h o f w t p) (o + 5) j v = mH h o f w t (u1 p j v) := by
  refine ph_x rfl rfl (fun q => ?_) rfl rfl
  by_cases e5 : q = o + 5
  · subst e5; rw [hI_sI_s, mH_5, mH_5]
  · rw [hI_sI_n _ _ _ e5]
    by_cases e : q = o
    · subst e; rw [mH_0, mH_0]
    · by_cases e3 : q = o + 3
      · subst e3; rw [mH_3, mH_3]
      · rw [mH_n e e3 e5, mH_n e e3 e5]
theorem mH_sL (v : Int) : sL (mH h o f w t p) o 11 v = mH h o f v t p := by
  refine ph_x rfl rfl (fun q => rfl) ?_ rfl
  show u2 (u2 h.2.2.2.1 o (u1 (hJ h o) 11 w)) o (u1 (u2 h.2.2.2.1 o (u1 (hJ h o) 11 w) o) 11 v) = u2 h.2.2.2.1 o (u1 (hJ h o) 11 v)
  rw [u2_s, u2_u2, u1_u1]
theorem mH_self (h : ph) (o : Nat) : mH h o (hI h o) (hJ h o 11) (hI h (o + 3)) (hI h (o + 5)) = h := by
  refine ph_x rfl rfl (fun q => ?_) ?_ rfl
  · by_cases e : q = o
    · subst e; exact mH_0
    · by_cases e3 : q = o + 3
      · subst e3; exact mH_3
      · by_cases e5 : q = o + 5
        · subst e5; exact mH_5
        · exact mH_n e e3 e5
  · funext q
    show u2 h.2.2.2.1 o (u1 (hJ h o) 11 (hJ h o 11)) q = _
    unfold u2
    by_cases e : q = o
    · subst e
      rw [if_pos rfl]
      funext j
      unfold u1
      by_cases e2 : j = 11
      · rw [if_pos e2, e2]
      · rw [if_neg e2]
    · rw [if_neg e]
end HHH
/-- its tape's bytes -/
def bT (h : ph) (o : Nat) (L : Int) : Int → Int := fun j => if j < L then hI h (o + 4) j else -1
theorem mH_bt {h : ph} {o : Nat} {f t p : Int → Int} {w : Int} : mBt (mH h o f w t p) o = bT h o (f 4) := by
  funext j
  unfold mBt bT
  rw [mH_0, mH_n (by omega) (by omega) (by omega)]
/-- the reference stands at the token i -/
def Tk (b : Int → Int) (f : Int → Int) (w : Int) (i : Nat) : Prop := f 7 = tE b (tP b i) ∧ f 8 = tP b i ∧ f 9 = tT b (tP b i) ∧ (f 9 = 1 → f 10 = tN b (tP b i)) ∧ (f 9 = 2 → w = tW b (tP b i)) ∧ (0 ≤ w ∧ w ≤ 1152921504606846976) ∧ (0 ≤ f 10 ∧ f 10 ≤ 999999)
def Fr (f f' : Int → Int) : Prop := ∀ j : Int, j < 7 ∨ 10 < j → f' j = f j
theorem Fr.refl (f : Int → Int) : Fr f f := fun _ _ => rfl
/-- a step to the token that begins at p -/
theorem tok_H {h : ph} {o : Nat} {f t p : Int → Int} {w L : Int} (hL : f 4 = L) (hB : TB (bT h o L) L) (h7 : 0 ≤ f 7 ∧ f 7 ≤ L) (hw : 0 ≤ w ∧ w ≤ 1152921504606846976) (hn : 0 ≤ f 10 ∧ f 10 ≤ 999999) : ∃ (f' : Int → Int) (w' : Int), mTok (mH h o f w t p) o = mH h o f' w' t p ∧ Fr f f' ∧ f' 7 = tE (bT h o L) (skp (bT h o L) 302 (f 7)) ∧ f' 8 = skp (bT h o L) 302 (f 7) ∧ f' 9 = tT (bT h o L) (skp (bT h o L) 302 (f 7)) ∧ (f' 9 = 1 → f' 10 = tN (bT h o L) (skp (bT h o L) 302 (f 7))) ∧ (f' 9 = 2 → w' = tW (bT h o L) (skp (bT h o L) 302 (f 7))) ∧ (0 ≤ w' ∧ w' ≤ 1152921504606846976) ∧ (0 ≤ f' 10 ∧ f' 10 ≤ 999999) := by
  unfold mTok
  rw [mH_bt, mH_0, hL]
  have hL0 := hB.1
  have hsk := skp_TB hB 302 (f 7) h7 (by omega)
  generalize hp : skp (bT h o L) 302 (f 7) = q at *
  have hF := figF_TB hB 302 q 0 (by omega) (by omega) (by decide)
  have hWr := wrdF_TB hB 302 q 0 (by omega) (by omega) (by decide)
  generalize hb : bT h o L = b at *
  have fr : ∀ (x y z : Int), Fr f (u1 (u1 (u1 f 7 x) 8 y) 9 z) := fun x y z j hj => by rw [u1_n _ _ (by omega), u1_n _ _ (by omega), u1_n _ _ (by omega)]
  unfold mRow4
  by_cases c0 : b q < 0
  · refine ⟨u1 (u1 (u1 f 7 q) 8 q) 9 0, w, by rw [if_pos c0, mH_s0, mH_s0, mH_s0], fr _ _ _, ?_, ?_, ?_, ?_, ?_, hw, ?_⟩
    · rw [u1_n _ _ (by decide), u1_n _ _ (by decide), u1_s, tE, if_pos c0]
    · rw [u1_n _ _ (by decide), u1_s]
    · rw [u1_s, tT, if_pos c0]
    · rw [u1_s]; intro e; exact absurd e (by decide)
    · rw [u1_s]; intro e; exact absurd e (by decide)
    · rw [u1_n _ _ (by decide), u1_n _ _ (by decide), u1_n _ _ (by decide)]; exact hn
  · rw [if_neg c0]
    by_cases c1 : 48 ≤ b q ∧ b q ≤ 57
    · have c1' : fgB (b q) := c1
      refine ⟨u1 (u1 (u1 (u1 f 7 (figF b 302 q 0).2) 8 q) 9 1) 10 (figF b 302 q 0).1, w, by rw [if_pos c1, mH_s0, mH_s0, mH_s0, mH_s0], ?_, ?_, ?_, ?_, ?_, ?_, hw, ?_⟩
      · intro j hj; rw [u1_n _ _ (by omega)]; exact fr _ _ _ j hj
      · rw [u1_n _ _ (by decide), u1_n _ _ (by decide), u1_n _ _ (by decide), u1_s, tE, if_neg c0, if_pos c1']
      · rw [u1_n _ _ (by decide), u1_n _ _ (by decide), u1_s]
      · rw [u1_n _ _ (by decide), u1_s, tT, if_neg c0, if_pos c1']
      · intro _; rw [u1_s]; rfl
      · rw [u1_n _ _ (by decide), u1_s]; intro e; exact absurd e (by decide)
      · rw [u1_s]; exact hF.2
    · have c1' : ¬ fgB (b q) := c1
      rw [if_neg c1]
      by_cases c2 : (97 ≤ b q ∧ b q ≤ 122) ∨ (65 ≤ b q ∧ b q ≤ 90)
      · have c2' : ltB (b q) := c2
        refine ⟨u1 (u1 (u1 f 7 (wrdF b 302 q 0).2) 8 q) 9 2, (wrdF b 302 q 0).1, by rw [if_pos c2, mH_s0, mH_s0, mH_s0, mH_sL], fr _ _ _, ?_, ?_, ?_, ?_, ?_, hWr.2, ?_⟩
        · rw [u1_n _ _ (by decide), u1_n _ _ (by decide), u1_s, tE, if_neg c0, if_neg c1', if_pos c2']
        · rw [u1_n _ _ (by decide), u1_s]
        · rw [u1_s, tT, if_neg c0, if_neg c1', if_pos c2']
        · rw [u1_s]; intro e; exact absurd e (by decide)
        · intro _; rfl
        · rw [u1_n _ _ (by decide), u1_n _ _ (by decide), u1_n _ _ (by decide)]; exact hn
      · have c2' : ¬ ltB (b q) := c2
        rw [if_neg c2]
        have eT : tT b q = (if (b q = 60 ∨ b q = 62) ∧ b (q + 1) = 61 then (if b q = 60 then 4 else 5) else if isSgB (b q) = true then b q else 3) := by
          rw [tT, if_neg c0, if_neg c1', if_neg c2']
        have eE : tE b q = (if (b q = 60 ∨ b q = 62) ∧ b (q + 1) = 61 then q + 2 else q + 1) := by
          rw [tE, if_neg c0, if_neg c1', if_neg c2']
        have n12 : tT b q ≠ 1 ∧ tT b q ≠ 2 := by
          have hl : ¬ (b q ≤ 2) ∨ isSgB (b q) = false := by
            by_cases g : b q ≤ 2
            · right; unfold isSgB; simp; omega
            · left; exact g
          rw [eT]
          by_cases g : (b q = 60 ∨ b q = 62) ∧ b (q + 1) = 61
          · rw [if_pos g]; by_cases g2 : b q = 60
            · rw [if_pos g2]; decide
            · rw [if_neg g2]; decide
          · rw [if_neg g]
            by_cases g2 : isSgB (b q) = true
            · rw [if_pos g2]
              rcases hl with e | e
              · constructor <;> omega
              · rw [e] at g2; cases g2
            · rw [if_neg g2]; decide
        by_cases c3 : (b q = 60 ∨ b q = 62) ∧ b (q + 1) = 61
        · rw [if_pos c3] at eT eE
          refine ⟨u1 (u1 (u1 f 7 (q + 2)) 8 q) 9 (if b q = 60 then 4 else 5), w, by rw [if_pos c3, mH_s0, mH_s0, mH_s0], fr _ _ _, ?_, ?_, ?_, ?_, ?_, hw, ?_⟩
          · rw [u1_n _ _ (by decide), u1_n _ _ (by decide), u1_s, eE]
          · rw [u1_n _ _ (by decide), u1_s]
          · rw [u1_s, eT]
          · rw [u1_s, ← eT]; intro e; exact absurd e n12.1
          · rw [u1_s, ← eT]; intro e; exact absurd e n12.2
          · rw [u1_n _ _ (by decide), u1_n _ _ (by decide), u1_n _ _ (by decide)]; exact hn
        · rw [if_neg c3] at eT eE
          refine ⟨u1 (u1 (u1 f 7 (q + 1)) 8 q) 9 (if isSgB (b q) = true then b q else 3), w, by rw [if_neg c3, mH_s0, mH_s0, mH_s0], fr _ _ _, ?_, ?_, ?_, ?_, ?_, hw, ?_⟩
          · rw [u1_n _ _ (by decide), u1_n _ _ (by decide), u1_s, eE]
          · rw [u1_n _ _ (by decide), u1_s]
          · rw [u1_s, eT]
          · rw [u1_s, ← eT]; intro e; exact absurd e n12.1
          · rw [u1_s, ← eT]; intro e; exact absurd e n12.2
          · rw [u1_n _ _ (by decide), u1_n _ _ (by decide), u1_n _ _ (by decide)]; exact hn
/-- what stands fixed while a text is read -/
def Rd (h : ph) (o : Nat) (L : Int) (b : Int → Int) : Prop := isM h o ∧ b = bT h o L ∧ TB b L
theorem Rd_IT {h : ph} {o : Nat} {L : Int} {b f t p : Int → Int} {w : Int} (H : Rd h o L b) (h4 : f 4 = L) : IT (mH h o f w t p) o := by
  obtain ⟨_, rfl, hB⟩ := H
  unfold IT
  rw [mH_0, h4, mH_n (by omega) (by omega) (by omega)]
  refine ⟨hB.1, fun i hi => ?_⟩
  have := hB.2.1 i hi
  unfold bT at this
  rw [if_pos hi.2] at this
  exact this
/-- what a step from the token i to the next leaves -/
def eT1 (h : ph) (o : Nat) (b f t p : Int → Int) (i : Nat) : Option Value → ph → Prop := fun r h1 => r = none ∧ ∃ (f' : Int → Int) (w' : Int), h1 = mH h o f' w' t p ∧ Fr f f' ∧ Tk b f' w' (i + 1)
theorem ev_next {G : gG} {l : Launch} {h : ph} {o : Nat} {L : Int} {b f t p : Int → Int} {w : Int} {i : Nat} (H : Rd h o L b) (h4 : f 4 = L) (hk : Tk b f w i) : Ev G l mX11_nextToken 1 0 0 [.ref o] (mH h o f w t p) (eT1 h o b f t p i) := by
  have hp := tP_TB H.2.2 i
  have he := tE_TB H.2.2 hp
  have hI := Rd_IT H (t := t) (p := p) (w := w) h4
  have hb := H.2.1
  have hB := H.2.2
  obtain ⟨k1, k2, k3, k4, k5, k6, k7⟩ := hk
  subst hb
  obtain ⟨f', w', e1, e2, e3, e4, e5, e6, e7, e8, e9⟩ := tok_H (t := t) (p := p) (w := w) h4 hB (by rw [k1]; omega) k6 k7
  have hn := ev_X11_nextToken (G := G) (l := l) (mH_M (f := f) (w := w) (t := t) (p := p) H.1) hI (by rw [mH_0, h4, k1]; omega)
  rw [e1] at hn
  have e3' : f' 7 = tE (bT h o L) (tP (bT h o L) (i + 1)) := by rw [e3, k1]; rfl
  have e4' : f' 8 = tP (bT h o L) (i + 1) := by rw [e4, k1]; rfl
  have e5' : f' 9 = tT (bT h o L) (tP (bT h o L) (i + 1)) := by rw [e5, k1]; rfl
  have e6' : f' 9 = 1 → f' 10 = tN (bT h o L) (tP (bT h o L) (i + 1)) := fun q => by rw [e6 q, k1]; rfl
  have e7' : f' 9 = 2 → w' = tW (bT h o L) (tP (bT h o L) (i + 1)) := fun q => by rw [e7 q, k1]; rfl
  exact ev_mono hn (fun r h1 q => by
    obtain ⟨q1, q2⟩ := q
    exact ⟨q1, f', w', q2, e2, e3', e4', e5', e6', e7', e8, e9⟩)
