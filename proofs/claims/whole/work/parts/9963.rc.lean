-- ===== rows alike up to their length =====
/-- the two rows hold the same -/
def Eq36 (a a' : Int → Int) : Prop := ∀ j : Int, 0 ≤ j ∧ j < 3640 → a' j = a j
theorem IA_e {a a' : Int → Int} (E : Eq36 a a') (H : IA a) : IA a' := by
  have h0 := H.nh
  have h1 := H.nb
  unfold IA
  rw [E 0 (by decide), E 1 (by decide), E 2 (by decide), E 3 (by decide), E 4 (by decide), E 5 (by decide), E 6 (by decide), E 7 (by decide), E 8 (by decide), E 9 (by decide), E 10 (by decide), E 11 (by decide), E 12 (by decide), E 13 (by decide), E 14 (by decide)]
  refine ⟨h0, h1, H.nt, H.tx, H.ns, H.n5, H.n6, H.n7, H.n8, H.lim, H.min, H.snow, H.oil, H.x, H.wr, fun x hx => ?_, fun b hb => ?_⟩
  · rw [E _ (by omega), E _ (by omega), E _ (by omega)]; exact H.h x hx
  · rw [E _ (by omega), E _ (by omega), E _ (by omega)]; exact H.b b hb
theorem TR_e {r be si a a' : Int → Int} (E : Eq36 a a') (H : TR r be si a) : TR r be si a' := by
  obtain ⟨hA, hU, h3, h4, h5, h6, h7⟩ := H
  have h0 := hA.nh
  have h1 := hA.nb
  refine ⟨IA_e E hA, fun b c hb hc => ?_, ?_, fun x hx => ?_, fun x hx => ?_, fun b hb => ?_, fun b hb => ?_⟩
  · rw [E 1 (by decide)] at hb hc
    rw [E (48 + 4 * b + 1) (by omega), E (48 + 4 * c + 1) (by omega)]
    exact hU b c hb hc
  · rw [E 0 (by decide), E 1 (by decide), E 10 (by decide), E 11 (by decide), E 12 (by decide), E 13 (by decide)]; exact h3
  · rw [E 0 (by decide)] at hx
    rw [E _ (by omega), E _ (by omega), E _ (by omega)]; exact h4 x hx
  · rw [E 0 (by decide)] at hx; exact h5 x hx
  · rw [E 1 (by decide)] at hb
    rw [E _ (by omega), E _ (by omega), E _ (by omega)]; exact h6 b hb
  · rw [E 1 (by decide)] at hb; exact h7 b hb
theorem mSh_e {a a' : Int → Int} (E : Eq36 a a') : mSh a' = mSh a := by unfold mSh; rw [E 14 (by decide)]
theorem Bk_e {r a a' : Int → Int} (E : Eq36 a a') (hA : IA a) (H : Bk r a) : Bk r a' := by
  have h14 := hA.wr
  refine ⟨by rw [mSh_e E]; exact H.1, fun i w hi hw => ?_⟩
  rw [mSh_e E] at hi
  have hs : mSh a ≤ a 14 := by unfold mSh; split <;> omega
  have e : mEn a' i w = mEn a i w := by
    unfold mEn
    rw [mSh_e E, E 14 (by decide)]
    have ht := Int.tmod_nonneg 1230 (show 0 ≤ a 14 - mSh a + i by omega)
    have ht2 := Int.tmod_lt_of_pos (a 14 - mSh a + i) (show (0 : Int) < 1230 by decide)
    rw [E _ (by omega), E _ (by omega)]
  rw [e]
  exact H.2 i w hi hw
theorem lv_e {a a' : Int → Int} (E : Eq36 a a') {i : Int} (hi : 0 ≤ i ∧ i < 30) : Eq36 (lv a i) (lv a' i) := fun j hj => by
  unfold lv
  split
  · exact E _ (by omega)
  · split
    · exact E _ (by omega)
    · split
      · exact E _ (by omega)
      · split
        · exact E _ (by omega)
        · split
          · exact E _ (by omega)
          · exact E _ hj
theorem nx_e {a a' : Int → Int} (E : Eq36 a a') {i : Int} (hi : 0 ≤ i ∧ i < a 4) (h4 : a 4 ≤ 30) : Eq36 (nx a i) (nx a' i) := fun j hj => by
  unfold nx
  rw [E 4 (by decide)]
  split
  · exact E j hj
  · exact lv_e E (by omega) j hj
theorem WR_e {c : Int} {h : ph} {w : Nat} {a a' : Int → Int} (E : Eq36 a a') (H : WR c h w a) : WR c h w a' := by
  have hA := H.tr.ia
  have h0 := hA.nh
  have h1 := hA.nb
  have h4 := hA.ns
  have n5 := hA.n5
  have n6 := hA.n6
  have n7 := hA.n7
  have n8 := hA.n8
  obtain ⟨w1, w2, w3, w4, w5, w6, w7, w8, w9, w10, w11, w12, w13⟩ := H
  refine ⟨TR_e E w1, Bk_e E hA w2, by rw [E 9 (by decide)]; exact w3, by rw [E 4 (by decide)]; exact w4, fun i hi => ?_, ?_, ?_, ?_, ?_, by rw [E 2 (by decide), E 3 (by decide)]; exact w10, fun x hx => ?_, ⟨fun k hk => ?_, fun k hk => ?_, fun k hk => ?_, fun k hk => ?_⟩, fun i hi => ?_⟩
  · rw [E 4 (by decide)] at hi ⊢
    obtain ⟨s1, s2, s3, s4, s5⟩ := w5 i hi
    have L := lv_e E (i := i) (by omega)
    have N := nx_e E hi h4.2
    have i1 := s1.ia.nh
    have n0 : nx a i 0 ≤ 8 := by
      unfold nx
      split
      · omega
      · rename_i q; exact (w5 (i + 1) (by omega)).1.ia.nh.2
    rw [L 0 (by decide), L 1 (by decide), L 14 (by decide), N 0 (by decide), N 1 (by decide), N 14 (by decide)]
    refine ⟨TR_e L s1, Bk_e L s1.ia s2, s3, s4, fun x hx => ?_⟩
    rw [N _ (by omega), E _ (by omega)]
    exact s5 x hx
  · refine ⟨w6.1, by rw [E 5 (by decide)]; exact w6.2.1, fun k hk => ?_⟩
    rw [E 5 (by decide)] at hk
    show _ = a' (72 + 2 * k) ∧ _ = a' (72 + 2 * k + 1) ∧ _
    rw [E _ (by omega), E _ (by omega)]
    exact w6.2.2 k hk
  · refine ⟨w7.1, by rw [E 6 (by decide)]; exact w7.2.1, fun k hk => ?_⟩
    rw [E 6 (by decide)] at hk
    show _ = a' (88 + 3 * k) ∧ _ = a' (88 + 3 * k + 1) ∧ _ = a' (88 + 3 * k + 2)
    rw [E _ (by omega), E _ (by omega), E _ (by omega)]
    exact w7.2.2 k hk
  · refine ⟨w8.1, by rw [E 7 (by decide)]; exact w8.2.1, fun k hk => ?_⟩
    rw [E 7 (by decide)] at hk
    show _ = a' (106 + k) ∧ _ ∧ _
    rw [E _ (by omega)]
    exact w8.2.2 k hk
  · refine ⟨w9.1, by rw [E 8 (by decide)]; exact w9.2.1, fun k hk => ?_⟩
    rw [E 8 (by decide)] at hk
    show _ = a' (114 + 2 * k) ∧ _ = a' (114 + 2 * k + 1) ∧ _
    rw [E _ (by omega), E _ (by omega)]
    exact w9.2.2 k hk
  · rw [E 0 (by decide)] at hx
    rw [E _ (by omega), E _ (by omega)]
    exact w11 x hx
  · rw [E 5 (by decide)] at hk
    rw [E _ (by omega), E _ (by omega)]
    exact w12.1 k hk
  · rw [E 6 (by decide)] at hk
    rw [E _ (by omega), E _ (by omega), E _ (by omega)]
    exact w12.2.1 k hk
  · rw [E 7 (by decide)] at hk
    rw [E _ (by omega)]
    exact w12.2.2.1 k hk
  · rw [E 8 (by decide)] at hk
    rw [E _ (by omega), E _ (by omega)]
    exact w12.2.2.2 k hk
  · rw [E _ (by omega), E _ (by omega)]
    exact w13 i hi
theorem WR.ik {c : Int} {h : ph} {w : Nat} {a : Int → Int} (H : WR c h w a) : IK a := fun i hi => by
  have := (H.2.2.2.2.1 i hi).1.ia
  exact ⟨this.nh, this.nb⟩
theorem cpR_36 (a b : Int → Int) : Eq36 a (cpR a b 0 3640) := fun j hj => by unfold cpR; rw [if_pos hj]
