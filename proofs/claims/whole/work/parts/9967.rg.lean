-- ===== the two: a text read =====
theorem IA_2 {a : Int → Int} (hA : IA a) {v : Int} (hv : a 2 ≤ v ∧ v ≤ 4) : IA (u1 a 2 v) := by
  have h2 := hA.nt
  have h3 := hA.tx
  have := IA_23 hA (n := v) (r := a 3) (by omega) (by omega)
  have e : u1 (u1 a 2 v) 3 (a 3) = u1 a 2 v := by
    funext j
    by_cases q : j = 3
    · rw [q, u1_s, u1_n _ _ (by decide)]
    · rw [u1_n _ _ q]
  rw [e] at this
  exact this
theorem WR_2 {h h' : ph} {w : Nat} {a : Int → Int} (H : WR 40 h w a) {v : Int} (hv : a 2 ≤ v ∧ v ≤ 4) (oo : ∀ k : Nat, 1 ≤ k ∧ k ≤ 52 → hI h' (w + k) = hI h (w + k)) (e6 : hI h' w 6 = v) (e7 : hI h' w 7 = hI h w 7) : WR 40 h' w (u1 a 2 v) := by
  have hA := H.tr.ia
  have h5 := hA.n5
  have h6 := hA.n6
  have h7 := hA.n7
  have h8 := hA.n8
  have eu : ∀ j : Int, j ≠ 2 → u1 a 2 v j = a j := fun j hj => u1_n _ _ hj
  refine H.far (IA_2 hA hv) (fun j hj => eu j (by omega)) (fun k h1 h2 => oo k (by omega)) (by rw [oo 1 (by omega), eu 9 (by decide)]; exact H.lim) ?_ ?_ ?_ ?_ ?_ (ID_cg2 H.id (fun j hj => eu j (by omega)))
  · exact Td_o H.t1 (fun k hk => by rw [Nat.add_assoc]; exact oo _ (by omega)) (eu 5 (by decide)) (fun k hk => ⟨eu _ (by omega), eu _ (by omega), rfl⟩)
  · exact Td_o H.t2 (fun k hk => by rw [Nat.add_assoc]; exact oo _ (by omega)) (eu 6 (by decide)) (fun k hk => ⟨eu _ (by omega), eu _ (by omega), eu _ (by omega)⟩)
  · exact Td_o H.t3 (fun k hk => by rw [Nat.add_assoc]; exact oo _ (by omega)) (eu 7 (by decide)) (fun k hk => ⟨eu _ (by omega), rfl, rfl⟩)
  · exact Td_o H.t4 (fun k hk => by rw [Nat.add_assoc]; exact oo _ (by omega)) (eu 8 (by decide)) (fun k hk => ⟨eu _ (by omega), eu _ (by omega), rfl⟩)
  · rw [e6, u1_s, eu 3 (by decide), e7]; exact ⟨rfl, H.tx.2⟩
theorem ScL_c {h h' : ph} {q : Nat} {sm sm' : smT} {t : Int} (H : ScL h q sm t) (e : ∀ k : Nat, 1 ≤ k ∧ k ≤ 4 → hI h' (q + k) = hI h (q + k)) (es : ∀ (k wo : Int) (a nm : Int → Int), sm' t k wo a nm = sm t k wo a nm) : ScL h' q sm' t := by
  intro k hk
  have := H k hk
  rw [e 1 (by omega), e 2 (by omega), e 3 (by omega), e 4 (by omega)]
  refine ⟨this.1, ?_⟩
  rcases this.2 with ⟨c1, c2⟩ | ⟨c1, c2⟩
  · exact Or.inl ⟨c1, fun wo a nm => by rw [es]; exact c2 wo a nm⟩
  · exact Or.inr ⟨c1, fun wo a nm N hA hN => by rw [es]; exact c2 wo a nm N hA hN⟩
/-- the class's script of the text that was read -/
theorem ScL_new {h : ph} {s : Nat} {n : Int} {T : Int → Int} {L M : kL} {C D : cL} {sm : smT} (H : TxR T n L C M D) (HC : CLs h s M) (hD : ∀ (k : Nat) (x : Int × Int), D[k]? = some x → hI h (s + 1) k = x.1 ∧ hI h (s + 2) k = x.2) : ScL h s (smN sm n L C) n := by
  obtain ⟨K, ⟨h0, h24⟩, hCl, hCo, hC3, hD3⟩ := H
  intro k hk
  have st := HC.st hk
  have eh := K.has k
  have en : ∀ (wo : Int) (a nm : Int → Int), smN sm n L C n k wo a nm = if hasK L k = true then lwV L C k a nm else wo := fun wo a nm => by unfold smN; rw [if_pos rfl]
  cases e : hasK L k with
  | false =>
    have e3 := st.2 (by rw [← eh]; exact e)
    refine ⟨by omega, Or.inl ⟨e3, fun wo a nm => by rw [en, e, if_neg (by decide)]⟩⟩
  | true =>
    have e3 := st.1 (by rw [← eh]; exact e)
    refine ⟨by omega, Or.inr ⟨by omega, fun wo a nm N hA hN => ?_⟩⟩
    rw [en, e, if_pos rfl]
    obtain ⟨m, x, hx, ek, hf, hfi⟩ := find_at e
    obtain ⟨y, hy, e1, -, hl⟩ := K.at m hx
    obtain ⟨C0, C1, Cr, D0, D1, Dr, a1, a2, a3, a4, a5, a6, a7⟩ := hl (by omega)
    rw [ek] at a7
    obtain ⟨v, rv, hv⟩ := a7 (by omega) a nm hA (fun i hi => (hN i hi).2)
    have ev : lwV L C k a nm = v := by
      unfold lwV
      rw [hfi]
      show (runL a nm (sg C x.2.1 x.2.2) (0, 0, z0, z0)).2.2.1 0 = v
      rw [a1, a2, a3, sg_of]
      obtain ⟨-, V', W', g1, g2, -⟩ := (hv nm (fun _ _ => rfl)).1 0 0 z0 z0 (by decide) (by decide)
      rw [g1]
      exact g2
    rw [ev]
    have hyk : y.1 = k := by rw [← e1]; exact ek
    have hym := HC.2.2.2.1 y (List.mem_of_getElem? hy) (by omega)
    rw [hyk] at hym
    rw [hym.1, hym.2, a5, a6]
    have hlen : (D0 ++ D1 ++ Dr).length = D0.length + D1.length + Dr.length := by simp [Nat.add_assoc]
    rw [← a4] at hlen
    refine ⟨by omega, rv, fun S => ?_⟩
    have seg : SegC (hI h (s + 1)) (hI h (s + 2)) (D0.length : Int) D1 := fun j z hj => by
      have hz : D[D0.length + j]? = some z := by
        rw [a4, List.append_assoc, List.getElem?_append_right (by omega), show D0.length + j - D0.length = j by omega, List.getElem?_append_left (len_of hj)]
        exact hj
      have := hD (D0.length + j) z hz
      rw [show ((D0.length + j : Nat) : Int) = (D0.length : Int) + j by omega] at this
      exact this
    obtain ⟨mm, S', g1, g2, -⟩ := (hv N (fun i hi => (hN i hi).1)).2 (hI h (s + 1)) (hI h (s + 2)) ((D0.length : Int) + D1.length) 0 S seg (Int.le_refl _) (by omega) (by decide)
    exact ⟨mm, 0 + 1, S', g1, g2⟩
theorem PlR_new {h : ph} {s : Nat} {n : Int} {T : Int → Int} {L M : kL} {C D : cL} (H : TxR T n L C M D) (HC : CLs h s M) : PlR h s T n := by
  obtain ⟨K, ⟨h0, h24⟩, hCl, hCo, hC3, hD3⟩ := H
  have hl := K.len
  refine ⟨by rw [HC.1, h0, hl], by omega, fun i hi => ?_⟩
  rw [h0] at hi
  obtain ⟨m, rfl⟩ := Int.eq_ofNat_of_zero_le hi.1
  have hm : m < L.length := by omega
  have hx : L[m]? = some L[m] := List.getElem?_eq_getElem hm
  obtain ⟨y, hy, e1, e2, -⟩ := K.at m hx
  have hc := ClAt_at m hCl hx
  have hr := HC.2.1 m y hy
  have hb := HC.2.2.2.2 y (List.mem_of_getElem? hy)
  generalize L[m] = x at *
  rw [hr.1, hr.2.1, hr.2.2, hc.1, hc.2.1]
  refine ⟨e1.symm, by rw [e1]; exact hb.1, fun q => ?_, fun q => ?_, ?_, ?_⟩
  · rw [if_neg (by omega)]
    have := e2 q
    rw [this]
  · rw [if_neg (by omega), hc.2.2 (by unfold sec; omega)]
    have := e2 (by omega)
    rw [this]
  · split
    · decide
    · exact hb.2.1
  · split
    · decide
    · exact hb.2.2
theorem PlR_c {h h' : ph} {q : Nat} {tx T : Int → Int} {t : Int} (H : PlR h q tx t) (e : ∀ k : Nat, k ≤ 7 → hI h' (q + k) = hI h (q + k)) (es : sameT tx T t) (ht : 0 ≤ t) : PlR h' q T t := by
  obtain ⟨a1, a2, a3⟩ := H
  have e0 := e 0 (by omega)
  unfold sameT at es
  have e1 := es (705 * t) (by omega)
  refine ⟨by rw [show hI h' q = hI h q from e0, e1]; exact a1, by rw [e1]; exact a2, fun i hi => ?_⟩
  rw [e1] at hi
  rw [e 5 (by omega), e 6 (by omega), e 7 (by omega), es (705 * t + 1 + 4 * i) (by omega), es (705 * t + 1 + 4 * i + 1) (by omega), es (705 * t + 1 + 4 * i + 2) (by omega)]
  exact a3 i hi
theorem IY_t {tx T : Int → Int} {n : Int} (H : IY tx) (hT : ∀ t : Int, 0 ≤ t ∧ t ≤ 3 → t ≠ n → sameT tx T t) (hX : IX tx) (hI : IXn T (705 * n)) (hb : bndA T (705 * n)) : IY T := by
  intro t ht k hk
  by_cases e : t = n
  · subst e
    have := hb k (by have := hI.1; omega)
    exact this
  · have hs := hT t ht e
    have hx := (hX t ht).1
    unfold sameT at hs
    rw [hs (705 * t) (by omega)] at hk
    rw [hs _ (by omega), hs _ (by omega)]
    exact H t ht k hk
/-- the class's facts, where all below r stays -/
theorem XB_low {c : Int} {h1 h2 : ph} {o r : Nat} {a : Int → Int} {sm : smT} (H : XB c h1 o a sm) (e1 : h2.1 = h1.1) (e2 : h2.2.1 = h1.2.1) (e3 : h2.2.2.2.2 = h1.2.2.2.2) (eq : ∀ q : Nat, q < r → hI h2 q = hI h1 q) (hr : o + 166 ≤ r) : XB c h2 o a sm := by
  obtain ⟨p1, p2, p3, p4, p5⟩ := h2
  simp only at e1 e2 e3
  subst e1 e2 e3
  have e : XB c (h1.1, h1.2.1, p3, h1.2.2.2.1, h1.2.2.2.2) o a sm := XB_G H ⟨rfl, rfl, rfl⟩ (fun q hq => eq q (by omega))
  exact XB_J e
theorem XB_T {c : Int} {h g : ph} {o s : Nat} {a : Int → Int} {sm : smT} (H : XB c h o a sm) (F : FrT h g o s) (D : DS h o s) (h2 : a 2 ≤ 4) : XB c g o a sm := by
  have hs := D.2.1
  unfold sOK at hs
  have eR : hR g = hR h := by funext q i; exact hR_Sm F.1 q i
  have eS : ∀ t : Int, scO g o t = scO h o t := fun t => by unfold scO; rw [eR]
  refine ⟨H.1.f F.1, H.2.1.cells (fun k hk => F.2 _ (by omega) (by omega) (by omega)), H.2.2.1, fun t ht => ?_⟩
  have hS := H.2.2.2 t ht
  rw [eS]
  cases hc : scO h o t with
  | none => rw [hc] at hS; exact hS
  | some q =>
    rw [hc] at hS
    have hq := (scO_ap (t := t) H.1).2 q hc
    have hqs : q ≠ s := fun e => by
      unfold scO at hc
      split at hc
      · rename_i w; rw [e] at hc; exact D.2.2.1 t w hc
      · cases hc
    unfold sOK at hq
    refine ⟨hS.1.f F.1, ScL_c hS.2 (fun k hk => F.2 _ (by omega) (by omega) (by omega)) (fun _ _ _ _ => rfl)⟩
