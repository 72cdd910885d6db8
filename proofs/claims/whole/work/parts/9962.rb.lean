-- ===== the text that was read: its laws =====
theorem find_at {k : Int} : ∀ {L : kL}, hasK L k = true → ∃ (m : Nat) (x : Int × Int × Int), L[m]? = some x ∧ x.1 = k ∧ (∀ (j : Nat) (y : Int × Int × Int), j < m → L[j]? = some y → y.1 ≠ k) ∧ L.find? (fun x => x.1 == k) = some x := by
  intro L
  induction L with
  | nil => intro h; exact absurd h (by simp [hasK])
  | cons y L ih =>
    intro h
    by_cases e : y.1 = k
    · exact ⟨0, y, rfl, e, fun j _ hj _ => absurd hj (Nat.not_lt_zero j), by rw [List.find?_cons, show (y.1 == k) = true from beq_iff_eq.mpr e]⟩
    · have h2 : hasK L k = true := by
        unfold hasK at h ⊢
        rw [List.any_cons, show (y.1 == k) = false from beq_eq_false_iff_ne.mpr e, Bool.false_or] at h
        exact h
      obtain ⟨m, x, h3, h4, h5, h6⟩ := ih h2
      refine ⟨m + 1, x, by simpa using h3, h4, fun j z hj hz => ?_, by rw [List.find?_cons, show (y.1 == k) = false from beq_eq_false_iff_ne.mpr e]; exact h6⟩
      cases j with
      | zero =>
        have : y = z := by simpa using hz
        rw [← this]; exact e
      | succ j => exact h5 j z (by omega) (by simpa using hz)
theorem ClAt_at {t : Int → Int} : ∀ {L : kL} {c : Int} (m : Nat) {x : Int × Int × Int}, ClAt t c L → L[m]? = some x → t (c + 4 * m) = x.1 ∧ t (c + 4 * m + 1) = x.2.1 ∧ (sec x.1 → t (c + 4 * m + 2) = x.2.2) := by
  intro L
  induction L with
  | nil => intro c m x _ h; simp at h
  | cons y L ih =>
    intro c m x h hx
    cases m with
    | zero =>
      have : y = x := by simpa using hx
      subst this
      rw [show c + 4 * ((0 : Nat) : Int) = c by omega]
      exact h.1
    | succ m =>
      have := ih m h.2 (show L[m]? = some x by simpa using hx)
      rw [show c + 4 + 4 * (m : Int) = c + 4 * ((m + 1 : Nat) : Int) by omega] at this
      exact this
theorem len_of {α : Type} {L : List α} {m : Nat} {x : α} (h : L[m]? = some x) : m < L.length := by
  rcases Nat.lt_or_ge m L.length with q | q
  · exact q
  · rw [List.getElem?_eq_none q] at h; cases h
theorem hasK_at {L : kL} {k : Int} (h : hasK L k = false) {m : Nat} {x : Int × Int × Int} (hx : L[m]? = some x) : x.1 ≠ k := fun e => by
  have : hasK L k = true := List.any_eq_true.mpr ⟨x, List.mem_of_getElem? hx, by simpa using e⟩
  rw [h] at this
  cases this
/-- the reference's row of the text n, and the class's clauses and code -/
def TxR (T : Int → Int) (n : Int) (L : kL) (C : cL) (M : kL) (D : cL) : Prop := KR C D L M ∧ (T (705 * n) = (L.length : Int) ∧ L.length ≤ 24) ∧ ClAt T (705 * n + 1) L ∧ CodeAt T (705 * n + 97) C ∧ C.length ≤ 300 ∧ D.length ≤ 300
theorem lw_new {T : Int → Int} {n : Int} {L M : kL} {C D : cL} (H : TxR T n L C M D) (hn : 0 ≤ n ∧ n ≤ 3) {k : Int} (hk : 0 ≤ k ∧ k ≤ 2) {a nm0 nm1 : Int → Int} (hA : IA a) (hR : Rg k nm0) (hG : Ag k nm0 nm1) {wo : Int} : LawV a nm1 T n k wo (if hasK L k = true then lwV L C k a nm0 else wo) := by
  obtain ⟨K, ⟨h0, h24⟩, hCl, hCo, hC3, -⟩ := H
  cases e : hasK L k with
  | false =>
    rw [if_neg (by decide)]
    refine Or.inl ⟨Or.inr (fun j hj => ?_), rfl⟩
    rw [h0] at hj
    obtain ⟨m, rfl⟩ := Int.eq_ofNat_of_zero_le hj.1
    have hm : m < L.length := by omega
    have hx : L[m]? = some L[m] := List.getElem?_eq_getElem hm
    have := (ClAt_at m hCl hx).1
    rw [this]
    exact hasK_at e hx
  | true =>
    rw [if_pos rfl]
    obtain ⟨m, x, hx, ek, hf, hfi⟩ := find_at e
    have hm := len_of hx
    obtain ⟨y, hy, -, -, hl⟩ := K.at m hx
    obtain ⟨C0, C1, Cr, D0, D1, Dr, a1, a2, a3, a4, a5, a6, a7⟩ := hl (by omega)
    rw [ek] at a7
    obtain ⟨v, rv, hv⟩ := a7 (by omega) a nm0 hA hR
    have ev : lwV L C k a nm0 = v := by
      unfold lwV
      rw [hfi]
      show (runL a nm0 (sg C x.2.1 x.2.2) (0, 0, z0, z0)).2.2.1 0 = v
      rw [a1, a2, a3, sg_of]
      obtain ⟨-, V', W', g1, g2, -⟩ := (hv nm0 (fun _ _ => rfl)).1 0 0 z0 z0 (by decide) (by decide)
      rw [g1]
      exact g2
    rw [ev]
    have hc := ClAt_at m hCl hx
    have hlen : (C0 ++ C1 ++ Cr).length = C0.length + C1.length + Cr.length := by simp [Nat.add_assoc]
    rw [← a1] at hlen
    have e1 : T (705 * n + 1 + 4 * (m : Int) + 1) = (C0.length : Int) := by rw [hc.2.1, a2]
    have e2 : T (705 * n + 1 + 4 * (m : Int) + 2) = (C0.length : Int) + C1.length := by rw [hc.2.2 (by unfold sec; omega), a3]
    refine Or.inr ⟨hn.1, (m : Int), by rw [h0]; omega, by rw [hc.1]; exact ek, fun j hj => ?_, ?_⟩
    · obtain ⟨q, rfl⟩ := Int.eq_ofNat_of_zero_le hj.1
      have hq : q < L.length := by omega
      have hxq : L[q]? = some L[q] := List.getElem?_eq_getElem hq
      rw [(ClAt_at q hCl hxq).1]
      exact hf q _ (by omega) hxq
    · unfold runR
      rw [e1, e2]
      refine ⟨⟨hn.1, hn.2, by omega, by omega, by omega, by omega, by omega, rv.1, rv.2⟩, fun V W => ?_⟩
      rw [show ((C0.length : Int) + C1.length - C0.length).toNat = C1.length by omega]
      rw [a1] at hCo
      have hCo1 := (CodeAt_app.mp (CodeAt_app.mp hCo).1).2
      have := runS_L (a := a) (nm := nm1) C1 (C0.length : Int) (0, 0, V, W) hCo1
      obtain ⟨g0, V', W', g1, g2, -⟩ := (hv nm1 hG).1 0 0 V W (by decide) (by decide)
      rw [this.1, this.2, g1]
      exact ⟨g0, g2⟩
theorem Ag_S (nm : Int → Int) (m s r : Int) : Ag 2 (nmS z0 m s r) (nmS nm m s r) := fun i hi => by
  have hi2 : i ≤ 2 := hi.2
  rcases (by omega : i = 0 ∨ i = 1 ∨ i = 2) with e | e | e <;> subst e <;> rfl
theorem Ag_H (a nm : Int → Int) (x r : Int) : Ag 0 (nmH a z0 x r) (nmH a nm x r) := fun i hi => by
  have hi2 : i ≤ 6 := hi.2
  rcases (by omega : i = 0 ∨ i = 1 ∨ i = 2 ∨ i = 3 ∨ i = 4 ∨ i = 5 ∨ i = 6) with e | e | e | e | e | e | e <;> subst e <;> rfl
theorem Ag_B (a nm : Int → Int) (b r : Int) : Ag 1 (nmB a z0 b r) (nmB a nm b r) := fun i hi => by
  have hi2 : i ≤ 8 := hi.2
  rcases (by omega : i = 0 ∨ i = 1 ∨ i = 2 ∨ i = 3 ∨ i = 4 ∨ i = 5 ∨ i = 6 ∨ i = 7 ∨ i = 8) with e | e | e | e | e | e | e | e | e <;> subst e <;> rfl
theorem Rg_S {a : Int → Int} (hA : IA a) {r : Int} (hr : 0 ≤ r ∧ r ≤ 100) : Rg 2 (nmS z0 (a 10) (a 11) r) := fun i hi => (rg_s hA hr i ⟨hi.1, hi.2⟩).2
theorem Rg_H {a : Int → Int} (hA : IA a) {x r : Int} (hx : 0 ≤ x ∧ x < a 0) (hr : 0 ≤ r ∧ r ≤ 100) : Rg 0 (nmH a z0 x r) := fun i hi => (rg_a hA hx hr i ⟨hi.1, hi.2⟩).2
theorem Rg_B {a : Int → Int} (hA : IA a) {b r : Int} (hb : 0 ≤ b ∧ b < a 1) (hs : a (48 + 4 * b + 1) ≠ -1) (hr : 0 ≤ r ∧ r ≤ 100) : Rg 1 (nmB a z0 b r) := fun i hi => by
  have hB := hA.b b hb
  have h1 := hA.nb
  have hi2 : i ≤ 8 := hi.2
  by_cases e : i ≤ 6
  · have := (rg_a hA (x := a (48 + 4 * b + 1)) (by omega) hr i ⟨hi.1, e⟩).2
    unfold nmB
    rw [u1_n _ _ (by omega), u1_n _ _ (by omega)]
    exact this
  · unfold rg6
    rcases (by omega : i = 7 ∨ i = 8) with e | e <;> subst e
    · show -1000000 ≤ a (48 + 4 * b + 0) ∧ a (48 + 4 * b + 0) ≤ 1000000
      omega
    · show -1000000 ≤ b ∧ b ≤ 1000000
      omega
theorem IA_23 {a : Int → Int} (hA : IA a) {n r : Int} (hn : 0 ≤ n ∧ n ≤ 4) (hr : -1 ≤ r ∧ r < n) : IA (u1 (u1 a 2 n) 3 r) := by
  have e : ∀ j : Int, j ≠ 2 → j ≠ 3 → u1 (u1 a 2 n) 3 r j = a j := fun j h2 h3 => by rw [u1_n _ _ h3, u1_n _ _ h2]
  have e2 : u1 (u1 a 2 n) 3 r 2 = n := by rw [u1_n _ _ (by decide), u1_s]
  have e3 : u1 (u1 a 2 n) 3 r 3 = r := u1_s _ _ _
  have h0 := hA.nh
  have h1 := hA.nb
  unfold IA
  rw [e2, e3]
  simp only [e 0 (by decide) (by decide), e 1 (by decide) (by decide), e 4 (by decide) (by decide), e 5 (by decide) (by decide), e 6 (by decide) (by decide), e 7 (by decide) (by decide), e 8 (by decide) (by decide), e 9 (by decide) (by decide), e 10 (by decide) (by decide), e 11 (by decide) (by decide), e 12 (by decide) (by decide), e 13 (by decide) (by decide), e 14 (by decide) (by decide)]
  refine ⟨h0, h1, hn, hr, hA.ns, hA.n5, hA.n6, hA.n7, hA.n8, hA.lim, hA.min, hA.snow, hA.oil, hA.x, hA.wr, fun h hh => ?_, fun b hb => ?_⟩
  · rw [e _ (by omega) (by omega), e _ (by omega) (by omega), e _ (by omega) (by omega)]; exact hA.h h hh
  · rw [e _ (by omega) (by omega), e _ (by omega) (by omega), e _ (by omega) (by omega)]; exact hA.b b hb
theorem Sem_old {n : Int} {tx T : Int → Int} {sm : smT} (hn : 0 ≤ n ∧ n ≤ 4) (S : Sem n tx sm) (hC : SmC sm) (hT : ∀ t : Int, 0 ≤ t ∧ t < n → sameT tx T t) {a : Int → Int} (hA : IA a) :
    (∀ (t r : Int) (nm : Int → Int), (-1 ≤ t ∧ t < n) → (0 ≤ r ∧ r ≤ 8) → LawV a (nmS nm (a 10) (a 11) r) T t 2 (8 * r) (sm t 2 (8 * r) a (nmS z0 (a 10) (a 11) r))) ∧
    (a 3 < n → ∀ (x r : Int) (nm : Int → Int), (0 ≤ x ∧ x < a 0) → (0 ≤ r ∧ r ≤ 8) → LawV a (nmH a nm x r) T (a 3) 0 1 (sm (a 3) 0 1 a (nmH a z0 x r))) ∧
    (a 3 < n → ∀ (b : Int) (s : Nat) (nm : Int → Int), (0 ≤ b ∧ b < a 1) → s < 256 → a (48 + 4 * b + 1) ≠ -1 → LawV a (nmB a nm b (pcN s)) T (a 3) 1 (bit s (a (48 + 4 * b + 1))) (sm (a 3) 1 (bit s (a (48 + 4 * b + 1))) a (nmB a z0 b (pcN s)))) := by
  have h0 := hA.nh
  have h1 := hA.nb
  have h3 := hA.tx
  have gen : ∀ (q : Int), q ≠ 2 → q ≠ 3 → ∀ r : Int, u1 (u1 a 2 n) 3 r q = a q := fun q q2 q3 r => by rw [u1_n _ _ q3, u1_n _ _ q2]
  have bt : ∀ r : Int, Bt (u1 (u1 a 2 n) 3 r) a := fun r => ⟨(gen 0 (by decide) (by decide) r).symm, fun x hx => by rw [gen 0 (by decide) (by decide)] at hx; rw [gen _ (by omega) (by omega)]⟩
  have cv : ∀ (r t k wo E : Int) (nm : Int → Int), -1 ≤ t ∧ t < n → LawV (u1 (u1 a 2 n) 3 r) nm tx t k wo E → LawV a nm T t k wo E := fun r t k wo E nm ht H => LawV_t (fun q => hT t ⟨q, ht.2⟩) (fun q => (S.1 t ⟨q, by omega⟩).1.2) (LawV_c (bt r) H)
  have sc : ∀ (r t k wo : Int) (nm : Int → Int), sm t k wo a nm = sm t k wo (u1 (u1 a 2 n) 3 r) nm := fun r t k wo nm => hC t k wo (u1 (u1 a 2 n) 3 r) a nm (bt r).1 (bt r).2
  have emr : ∀ (r x : Int), mRid (u1 (u1 a 2 n) 3 r) x = mRid a x := fun r x => mRid_c (gen 1 (by decide) (by decide) r) (fun b hb => gen _ (by omega) (by omega) r) h1.1 x
  have enh : ∀ (r x y : Int) (nm : Int → Int), 0 ≤ x → nmH (u1 (u1 a 2 n) 3 r) nm x y = nmH a nm x y := fun r x y nm hx => by
    unfold nmH
    rw [emr, gen 10 (by decide) (by decide), gen 11 (by decide) (by decide), gen (16 + 4 * x + 1) (by omega) (by omega)]
    congr 1
    by_cases q : mRid a x = -1
    · rw [if_pos q, if_pos q]
    · have := mRid_rng hA x
      rw [if_neg q, if_neg q, gen _ (by omega) (by omega)]
  have n2 : ∀ r : Int, u1 (u1 a 2 n) 3 r 2 = n := fun r => by rw [u1_n _ _ (by decide), u1_s]
  refine ⟨fun t r nm ht hr => ?_, fun h3n x r nm hx hr => ?_, fun h3n b s nm hb hs hon => ?_⟩
  · have := ((S.2 _ (IA_23 hA hn (r := -1) (by omega)) (by rw [n2]; exact Int.le_refl n)).1 t r nm ht hr)
    rw [gen 10 (by decide) (by decide), gen 11 (by decide) (by decide), ← sc] at this
    exact cv _ _ _ _ _ _ ht this
  · have := ((S.2 _ (IA_23 hA hn (r := a 3) (by omega)) (by rw [n2]; exact Int.le_refl n)).2.1 x r nm (by rw [gen 0 (by decide) (by decide)]; exact hx) hr)
    rw [u1_s, enh _ _ _ _ hx.1, enh _ _ _ _ hx.1, ← sc] at this
    exact cv _ _ _ _ _ _ (by omega) this
  · have hB := hA.b b hb
    have := ((S.2 _ (IA_23 hA hn (r := a 3) (by omega)) (by rw [n2]; exact Int.le_refl n)).2.2 b s nm (by rw [gen 1 (by decide) (by decide)]; exact hb) hs (by rw [gen _ (by omega) (by omega)]; exact hon))
    have enb : ∀ nm : Int → Int, nmB (u1 (u1 a 2 n) 3 (a 3)) nm b (pcN s) = nmB a nm b (pcN s) := fun nm => by
      unfold nmB
      rw [gen (48 + 4 * b + 1) (by omega) (by omega), gen (48 + 4 * b + 0) (by omega) (by omega), enh _ _ _ _ (by omega)]
    rw [u1_s, enb, enb, gen (48 + 4 * b + 1) (by omega) (by omega), ← sc] at this
    exact cv _ _ _ _ _ _ (by omega) this
/-- what the texts say, with one more -/
theorem Sem_new {n : Int} {tx T : Int → Int} {sm : smT} {L M : kL} {C D : cL} (hn : 0 ≤ n ∧ n ≤ 3) (S : Sem n tx sm) (hC : SmC sm) (hT : ∀ t : Int, 0 ≤ t ∧ t ≤ 3 → t ≠ n → sameT tx T t) (hI : IXn T (705 * n)) (H : TxR T n L C M D) : Sem (n + 1) T (smN sm n L C) := by
  refine ⟨fun t ht => ?_, fun a hA h2 => ?_⟩
  · by_cases e : t = n
    · rw [e]; exact hI
    · have hs := hT t ht e
      have ho := S.1 t ht
      unfold sameT at hs
      rw [hs (705 * t) (by omega)]
      refine ⟨ho.1, fun k hk => ?_⟩
      rw [hs _ (by omega)]
      exact ho.2 k hk
  · obtain ⟨o1, o2, o3⟩ := Sem_old (T := T) (by omega) S hC (fun t ht => hT t (by omega) (by omega)) hA
    have h3 := hA.tx
    have eo : ∀ (t k wo : Int) (nm : Int → Int), t ≠ n → smN sm n L C t k wo a nm = sm t k wo a nm := fun t k wo nm e => by unfold smN; rw [if_neg e]
    have en : ∀ (k wo : Int) (nm : Int → Int), smN sm n L C n k wo a nm = if hasK L k = true then lwV L C k a nm else wo := fun k wo nm => by unfold smN; rw [if_pos rfl]
    refine ⟨fun t r nm ht hr => ?_, fun x r nm hx hr => ?_, fun b s nm hb hs hon => ?_⟩
    · by_cases e : t = n
      · subst e; rw [en]
        exact lw_new H hn (by decide) hA (Rg_S hA (by omega)) (Ag_S _ _ _ _)
      · rw [eo _ _ _ _ e]; exact o1 t r nm (by omega) hr
    · by_cases e : a 3 = n
      · rw [e, en]
        exact lw_new H hn (by decide) hA (Rg_H hA hx (by omega)) (Ag_H _ _ _ _)
      · rw [eo _ _ _ _ e]; exact o2 (by omega) x r nm hx hr
    · by_cases e : a 3 = n
      · rw [e, en]
        have := pc8 hs
        exact lw_new H hn (by decide) hA (Rg_B hA hb hon (by omega)) (Ag_B _ _ _ _)
      · rw [eo _ _ _ _ e]; exact o3 (by omega) b s nm hb hs hon
/-- .. with none more: the row of the free place may hold anything -/
theorem Sem_same {n : Int} {tx T : Int → Int} {sm : smT} (hn : 0 ≤ n ∧ n ≤ 3) (S : Sem n tx sm) (hC : SmC sm) (hT : ∀ t : Int, 0 ≤ t ∧ t ≤ 3 → t ≠ n → sameT tx T t) (hI : IXn T (705 * n)) : Sem n T sm := by
  refine ⟨fun t ht => ?_, fun a hA h2 => ?_⟩
  · by_cases e : t = n
    · rw [e]; exact hI
    · have hs := hT t ht e
      have ho := S.1 t ht
      unfold sameT at hs
      rw [hs (705 * t) (by omega)]
      refine ⟨ho.1, fun k hk => ?_⟩
      rw [hs _ (by omega)]
      exact ho.2 k hk
  · obtain ⟨o1, o2, o3⟩ := Sem_old (T := T) (by omega) S hC (fun t ht => hT t (by omega) (by omega)) hA
    have h3 := hA.tx
    exact ⟨o1, o2 (by omega), o3 (by omega)⟩
