-- ===== the class: a minute passes =====
theorem ScO_sA {h : ph} {sc : Option Nat} {sm : smT} {t : Int} (H : ScO h sc sm t) {c : Nat} {f : Int → Int} (hc : ∀ s, sc = some s → c < s ∨ s + 7 < c) : ScO (sA h c f) sc sm t := by
  cases sc with
  | none => exact H
  | some s =>
    have := hc s rfl
    refine ⟨H.1, fun k hk => ?_⟩
    rw [hI_sA_n _ _ (show s + 1 ≠ c by omega), hI_sA_n _ _ (show s + 2 ≠ c by omega), hI_sA_n _ _ (show s + 3 ≠ c by omega), hI_sA_n _ _ (show s + 4 ≠ c by omega)]
    exact H.2 k hk
/-- what the laws say hangs on the beats alone -/
def SmC (sm : smT) : Prop := ∀ (t k wo : Int) (a a' nm : Int → Int), a' 0 = a 0 → (∀ x : Int, 0 ≤ x ∧ x < a 0 → a' (16 + 4 * x + 2) = a (16 + 4 * x + 2)) → sm t k wo a' nm = sm t k wo a nm
theorem mRid_c {a a' : Int → Int} (e1 : a' 1 = a 1) (e : ∀ b : Int, 0 ≤ b ∧ b < a 1 → a' (48 + 4 * b + 1) = a (48 + 4 * b + 1)) (h1 : 0 ≤ a 1) (x : Int) : mRid a' x = mRid a x := by
  unfold mRid
  rw [e1]
  apply fnd_congr
  intro b hb
  rw [e b (by omega)]
theorem mWears_c {sm : smT} (hC : SmC sm) {a a' : Int → Int} (hA : IA a) {x r : Int} (hx : 0 ≤ x ∧ x < a 0) (hlo : ∀ j : Int, j < 16 → a' j = a j) (hw : a' (16 + 4 * x + 1) = a (16 + 4 * x + 1)) (hbt : ∀ y : Int, 0 ≤ y ∧ y < a 0 → a' (16 + 4 * y + 2) = a (16 + 4 * y + 2)) (hb : ∀ j : Int, 48 ≤ j ∧ j < 72 → a' j = a j) : mWears sm a' x r = mWears sm a x r := by
  have h1 := hA.nb
  have hr := mRid_rng hA x
  have em : mRid a' x = mRid a x := mRid_c (hlo 1 (by decide)) (fun b hq => hb _ (by omega)) h1.1 x
  have en : nmH a' z0 x r = nmH a z0 x r := by
    unfold nmH
    rw [em, hlo 10 (by decide), hlo 11 (by decide), hw]
    congr 1
    by_cases q : mRid a x = -1
    · rw [if_pos q, if_pos q]
    · rw [if_neg q, if_neg q, hb _ (by omega)]
  unfold mWears
  rw [en, hlo 3 (by decide), hC _ _ _ a a' _ (hlo 0 (by decide)) hbt]
theorem aWear_o (a mo : Int → Int) : ∀ (n : Nat) (j : Int), (¬ (∃ x : Int, (0 ≤ x ∧ x < n) ∧ j = 16 + 4 * x + 1)) → aWear a mo n j = a j := by
  intro n
  induction n with
  | zero => intro j _; rfl
  | succ n ih =>
    intro j hj
    unfold aWear
    rw [u1_n _ _ (fun e => hj ⟨n, by omega, e⟩)]
    exact ih j (fun ⟨x, hx, e⟩ => hj ⟨x, by omega, e⟩)
theorem aBoys_hi {sm : smT} {s : Nat} {a : Int → Int} : ∀ (n : Nat) (j : Int), 48 + 4 * (n : Int) ≤ j → aBoys sm s a n j = a j := by
  intro n
  induction n with
  | zero => intro j _; rfl
  | succ n ih =>
    intro j hj
    unfold aBoys aBoy aRest aTire
    have e : ∀ (f : Int → Int) (v : Int), u1 f (48 + 4 * (n : Int) + 0) v j = f j := fun f v => u1_n _ _ (by omega)
    have e2 : ∀ (f : Int → Int) (v : Int), u1 f (48 + 4 * (n : Int) + 1) v j = f j := fun f v => u1_n _ _ (by omega)
    repeat' split
    all_goals first | (rw [e]; exact ih j (by omega)) | (rw [e2, e]; exact ih j (by omega)) | exact ih j (by omega)
theorem u1_self (f : Int → Int) {i v : Int} (h : f i = v) : u1 f i v = f := by
  funext j
  by_cases e : j = i
  · rw [e, u1_s, h]
  · rw [u1_n _ _ e]
theorem jSn (h : ph) (j q : Nat) (S N S2 N2 R : Int → Int) (hd : q + 3 < j ∨ j + 2 < q) : jS (sA (jS h j S N) (q + 1) R) j S2 N2 = sA (jS h j S2 N2) (q + 1) R := by
  rw [← jS_o _ _ _ _ (by omega) (by omega), jS_jS]
theorem sIA (X : ph) (c : Nat) (R : Int → Int) (i v : Int) : sI (sA X c R) c i v = sA X c (u1 R i v) := by unfold sI; rw [hI_sA_s, sA_sA]
/-- the book that the class shows is the reference's -/
def Bk (r a : Int → Int) : Prop := r 34 = mSh a ∧ ∀ i w : Int, 0 ≤ i ∧ i < mSh a → 0 ≤ w ∧ w ≤ 2 → r (35 + i * 3 + w) = mEn a i w
theorem Bk.cg {r r' a a' : Int → Int} (H : Bk r a) (h14 : a' 14 = a 14) (hr : ∀ j : Int, 34 ≤ j → r' j = r j) (ha : ∀ j : Int, 1180 ≤ j → a' j = a j) (hw : 0 ≤ a 14) : Bk r' a' := by
  have es : mSh a' = mSh a := by unfold mSh; rw [h14]
  have h0 : 0 ≤ a 14 - mSh a ∧ 0 ≤ mSh a := by unfold mSh; split <;> omega
  refine ⟨by rw [hr 34 (by decide), es]; exact H.1, fun i w hi hw => ?_⟩
  rw [es] at hi
  have hm := tm_nn (x := a 14 - mSh a + i) (y := 1230) (by omega) (by decide)
  rw [hr _ (by omega), H.2 i w hi hw]
  unfold mEn
  rw [es, h14, ha _ (by omega), ha _ (by omega)]
theorem Bk.slide {r c c' : Int → Int} {s : Nat} (H : Bk r c) (h30 : r 30 = c 10) (h28 : r 28 = c 11) (hs : s < 256) (hw : 0 ≤ c 14 ∧ c 14 ≤ 100000) (hsn : 0 ≤ c 11 ∧ c 11 ≤ 999) (e14 : c' 14 = c 14 + 1) (e1 : c' (1180 + 2 * (c 14).tmod 1230) = c 10) (e2 : c' (1180 + 2 * (c 14).tmod 1230 + 1) = c 11 * 256 + s) (eo : ∀ j : Int, 1180 ≤ j → j ≠ 1180 + 2 * (c 14).tmod 1230 → j ≠ 1180 + 2 * (c 14).tmod 1230 + 1 → c' j = c j) : Bk (aBk r s) c' := by
  obtain ⟨H1, H2⟩ := H
  have tm : ∀ x : Int, 0 ≤ x → x.tmod 1230 = x % 1230 := fun x hx => Int.tmod_eq_emod_of_nonneg hx
  have new : ∀ w : Int, 0 ≤ w ∧ w ≤ 2 → (if w = 0 then c' (1180 + 2 * (c 14).tmod 1230) else if w = 1 then (c' (1180 + 2 * (c 14).tmod 1230 + 1)).tdiv 256 else (c' (1180 + 2 * (c 14).tmod 1230 + 1)).tmod 256) = (if w = 0 then c 10 else if w = 1 then c 11 else (s : Int)) := fun w hw => by
    rw [e1, e2]
    by_cases q0 : w = 0
    · rw [if_pos q0, if_pos q0]
    · rw [if_neg q0, if_neg q0]
      by_cases q1 : w = 1
      · rw [if_pos q1, if_pos q1, Int.tdiv_eq_ediv_of_nonneg (by omega)]; omega
      · rw [if_neg q1, if_neg q1, Int.tmod_eq_emod_of_nonneg (by omega)]; omega
  have old : ∀ x w : Int, 0 ≤ x → x % 1230 ≠ c 14 % 1230 → (if w = 0 then c' (1180 + 2 * x.tmod 1230) else if w = 1 then (c' (1180 + 2 * x.tmod 1230 + 1)).tdiv 256 else (c' (1180 + 2 * x.tmod 1230 + 1)).tmod 256) = (if w = 0 then c (1180 + 2 * x.tmod 1230) else if w = 1 then (c (1180 + 2 * x.tmod 1230 + 1)).tdiv 256 else (c (1180 + 2 * x.tmod 1230 + 1)).tmod 256) := fun x w hx hne => by
    have g1 := tm x hx
    have g2 := tm (c 14) hw.1
    rw [eo (1180 + 2 * x.tmod 1230) (by omega) (by omega) (by omega), eo (1180 + 2 * x.tmod 1230 + 1) (by omega) (by omega) (by omega)]
  unfold Bk
  by_cases q : c 14 < 30
  · have es : mSh c = c 14 := by unfold mSh; rw [if_pos q]
    have es' : mSh c' = c 14 + 1 := by unfold mSh; rw [e14]; split <;> omega
    rw [es] at H1 H2
    rw [aBk, H1, if_pos q, es']
    refine ⟨by unfold bkW; rw [u1_s], fun i w hi hw2 => ?_⟩
    unfold mEn
    rw [es', e14, show c 14 + 1 - (c 14 + 1) + i = i by omega]
    by_cases e : i = c 14
    · subst e
      rw [new w hw2]
      unfold bkW
      rcases (by omega : w = 0 ∨ w = 1 ∨ w = 2) with e | e | e <;> subst e
      · rw [u1_n _ _ (by omega), u1_n _ _ (by omega), u1_n _ _ (by omega), Int.add_zero, u1_s]; exact h30
      · rw [u1_n _ _ (by omega), u1_n _ _ (by omega), u1_s]; exact h28
      · rw [u1_n _ _ (by omega), u1_s]; rfl
    · rw [old i w (by omega) (by omega)]
      have := H2 i w (by omega) hw2
      unfold mEn at this
      rw [es, show c 14 - c 14 + i = i by omega] at this
      rw [← this]
      unfold bkW
      rw [u1_n _ _ (by omega), u1_n _ _ (by omega), u1_n _ _ (by omega), u1_n _ _ (by omega)]
  · have es : mSh c = 30 := by unfold mSh; rw [if_neg q]
    have es' : mSh c' = 30 := by unfold mSh; rw [e14]; split <;> omega
    rw [es] at H1 H2
    rw [aBk, H1, if_neg (by decide), es']
    refine ⟨by unfold bkW; rw [u1_s]; rfl, fun i w hi hw2 => ?_⟩
    have cp : ∀ j : Int, 0 ≤ j ∧ j < 35 → cpI r r 38 35 87 j = r j := fun j hj => by unfold cpI; rw [if_neg (by omega)]
    unfold mEn
    rw [es', e14]
    by_cases e : i = 29
    · subst e
      rw [show c 14 + 1 - 30 + 29 = c 14 by omega, new w hw2]
      unfold bkW
      rcases (by omega : w = 0 ∨ w = 1 ∨ w = 2) with e | e | e <;> subst e
      · rw [u1_n _ _ (by decide), u1_n _ _ (by decide), u1_n _ _ (by decide), Int.add_zero, u1_s, cp 30 (by decide)]; exact h30
      · rw [u1_n _ _ (by decide), u1_n _ _ (by decide), u1_s, cp 28 (by decide)]; exact h28
      · rw [u1_n _ _ (by decide), u1_s]; rfl
    · rw [old (c 14 + 1 - 30 + i) w (by omega) (by omega)]
      have := H2 (i + 1) w (by omega) hw2
      unfold mEn at this
      rw [es, show c 14 - 30 + (i + 1) = c 14 + 1 - 30 + i by omega] at this
      rw [← this]
      unfold bkW
      rw [u1_n _ _ (by omega), u1_n _ _ (by omega), u1_n _ _ (by omega), u1_n _ _ (by omega)]
      unfold cpI
      rw [if_pos (by omega), show 38 + (35 + i * 3 + w - 35) = 35 + (i + 1) * 3 + w by omega]
