-- ===== the class: what a reading keeps =====
def zV (z : zT) (c : Int) : Prop := z.1 = 0 → (z.2.2.length : Int) + c ≤ (z.2.1 : Int)
theorem zV.wk {z : zT} {c e : Int} (h : zV z c) (he : e ≤ c) : zV z e := fun q => by have := h q; omega
theorem zV.F {F : zT → zT} (hF : zOK F) {z : zT} {c : Int} (h : zV z c) : zV (F z) c := fun q => by
  by_cases e : z.1 = 0
  · have := hF.2 z e q
    have := h e
    omega
  · exact absurd ((congrArg (fun z : zT => z.1) (hF.1 z e)).symm.trans q) e
theorem zV.Nx {z : zT} {c : Int} (h : zV z c) : zV (zNx z) (c + 1) := fun q => by
  by_cases e : z.1 = 0
  · rw [zNx_0 e]
    have := h e
    show (z.2.2.length : Int) + (c + 1) ≤ ((z.2.1 + 1 : Nat) : Int)
    omega
  · rw [zNx_n e] at q; exact absurd q e
theorem zV.Ref {z : zT} {w c : Int} (hw : w ≠ 0) : zV (zRef w z) c := fun q => absurd q (zRef_f hw)
theorem zV.Ad {x : Int × Int} {z : zT} {c : Int} (h : zV z c) : zV (zAd x z) (c - 1) := fun q => by
  by_cases e : z.1 = 0
  · rw [zAd_0 e]
    have := h e
    show ((z.2.2 ++ [x]).length : Int) + (c - 1) ≤ (z.2.1 : Int)
    rw [List.length_append, List.length_singleton]
    omega
  · rw [zAd_n e] at q; exact absurd q e
theorem zV.Ld {p : Nat} {z : zT} {c : Int} (h : zV z c) : zV (zLd p z) c := fun q => by
  by_cases e : z.1 = 0
  · rw [zLd_0 e]
    have := h e
    show ((pat z.2.2 p).length : Int) + c ≤ (z.2.1 : Int)
    rw [pat_l]
    exact this
  · rw [zLd_n e] at q; exact absurd q e
theorem zV.Ex {b : Int → Int} {k : Int} {z : zT} {c : Int} (h : zV z c) : zV (zEx b k z) (c + 1) := by
  unfold zEx
  split
  · exact h.Nx
  · exact zV.Ref (by decide)
theorem zV.Op {d : Int} {z : zT} {c : Int} (h : zV z c) : zV (zOp d z) (c + 1) := by
  unfold zOp
  split
  · exact zV.Ref (by decide)
  · exact h.Nx
theorem zV.Nu {b : Int → Int} {x y : Int} {z : zT} {c : Int} (h : zV z c) : zV (zNu b x y z) (c + 1) := by
  unfold zNu
  split
  · split
    · exact h.Nx
    · exact zV.Ref (by decide)
  · exact zV.Ref (by decide)
theorem zOK_of {F : zT → zT} (h1 : ∀ z : zT, z.1 ≠ 0 → F z = z) (h2 : ∀ (z : zT) (c : Int), z.1 = 0 → zV z c → zV (F z) c) : zOK F := ⟨h1, fun z hz hq => by
  have := h2 z ((z.2.1 : Int) - z.2.2.length) hz (fun _ => by omega) hq
  omega⟩
theorem zOK_id : zOK (fun z => z) := ⟨fun _ _ => rfl, fun z _ _ => by show z.2.2.length + z.2.1 ≤ z.2.1 + z.2.2.length; omega⟩
theorem zOne_ok {b : Int → Int} {d lw : Int} {S O C : zT → zT} (hS : zOK S) (hO : zOK O) (hC : zOK C) : zOK (zOne b d lw S O C) := by
  refine zOK_of (fun z hz => by unfold zOne; rw [if_neg hz]) (fun z c hz h => ?_)
  unfold zOne
  rw [if_pos hz]
  split
  · exact h.Nu.Ad.wk (by omega)
  · split
    · exact (h.Op.F hS).Ex.wk (by omega)
    · split
      · exact (h.Op.F hO).Ad.wk (by omega)
      · split
        · exact (h.Op.F hC).wk (by omega)
        · unfold zName
          split
          · exact zV.Ref (by decide)
          · split
            · exact zV.Ref (by decide)
            · exact h.Ad.Nx.wk (by omega)
theorem zAsk_ok {b : Int → Int} {d : Int} {S A : zT → zT} (hS : zOK S) (hA : zOK A) : zOK (zAsk b d S A) := by
  refine zOK_of (fun z hz => by unfold zAsk; rw [if_neg hz]) (fun z c hz h => ?_)
  unfold zAsk
  rw [if_pos hz]
  split
  · exact (h.Op.F hA).Ad.wk (by omega)
  · unfold zCk
    split
    · split
      · exact ((h.F hS).Nx.F hS).Ad.wk (by omega)
      · exact h.F hS
    · exact zV.Ref (by decide)
theorem zCh_ok {b : Int → Int} {E S : zT → zT} (hE : zOK E) (hS : zOK S) : zOK (zCh b E S) := by
  refine zOK_of (fun z hz => ?_) (fun z c hz h => ?_)
  · unfold zCh
    rw [hE.1 z hz, zEx_n (b := b) (k := 17) hz, zAd_n hz, hS.1 z hz, zEx_n (b := b) (k := 18) hz, zAd_n hz, zLd_n hz, hS.1 z hz, zEx_n (b := b) (k := 19) hz, zLd_n hz]
  · unfold zCh
    exact ((((((h.F hE).Ex.Ad.F hS).Ex.Ad).Ld.F hS).Ex).Ld).wk (by omega)
theorem zGr_id : zGr (fun z => z) := fun _ q => ⟨q, Nat.le_refl _⟩
theorem zGr_c {f g : zT → zT} (hf : zGr f) (hg : zGr g) : zGr (fun z => f (g z)) := fun z q => by
  obtain ⟨a1, a2⟩ := hf (g z) q
  obtain ⟨a3, a4⟩ := hg z a1
  exact ⟨a3, Nat.le_trans a4 a2⟩
theorem zGr_Nx : zGr zNx := fun z q => by
  by_cases e : z.1 = 0
  · rw [zNx_0 e]; exact ⟨e, Nat.le_refl _⟩
  · rw [zNx_n e] at q; exact absurd q e
theorem zGr_Ref {w : Int} (hw : w ≠ 0) : zGr (zRef w) := fun _ q => absurd q (zRef_f hw)
theorem zGr_Ad (x : Int × Int) : zGr (zAd x) := fun z q => by
  by_cases e : z.1 = 0
  · rw [zAd_0 e]; exact ⟨e, by show z.2.2.length ≤ (z.2.2 ++ [x]).length; rw [List.length_append]; omega⟩
  · rw [zAd_n e] at q; exact absurd q e
theorem zGr_Ld (p : Nat) : zGr (zLd p) := fun z q => by
  by_cases e : z.1 = 0
  · rw [zLd_0 e]; exact ⟨e, by show z.2.2.length ≤ (pat z.2.2 p).length; rw [pat_l]; omega⟩
  · rw [zLd_n e] at q; exact absurd q e
theorem zGr_Ex (b : Int → Int) (k : Int) : zGr (zEx b k) := fun z q => by
  unfold zEx at q ⊢
  split
  · rename_i g; rw [if_pos g] at q; exact zGr_Nx z q
  · rename_i g; rw [if_neg g] at q; exact zGr_Ref (by decide) z q
theorem zGr_Op (d : Int) : zGr (zOp d) := fun z q => by
  unfold zOp at q ⊢
  split
  · rename_i g; rw [if_pos g] at q; exact zGr_Ref (by decide) z q
  · rename_i g; rw [if_neg g] at q; exact zGr_Nx z q
theorem zGr_Nu (b : Int → Int) (x y : Int) : zGr (zNu b x y) := fun z q => by
  unfold zNu at q ⊢
  split
  · rename_i g
    rw [if_pos g] at q
    split
    · rename_i g2; rw [if_pos g2] at q; exact zGr_Nx z q
    · rename_i g2; rw [if_neg g2] at q; exact zGr_Ref (by decide) z q
  · rename_i g; rw [if_neg g] at q; exact zGr_Ref (by decide) z q
theorem zGr_Lp {b : Int → Int} {p : Int → Bool} {g : zT → zT} (hg : zGr g) : ∀ e : Nat, zGr (zLp b p g e) := by
  intro e
  induction e with
  | zero => exact zGr_id
  | succ e ih =>
    intro z q
    rw [zLp] at q ⊢
    by_cases c : z.1 = 0 ∧ p (kd b z) = true
    · rw [if_pos c] at q ⊢
      obtain ⟨a1, a2⟩ := ih _ q
      obtain ⟨a3, a4⟩ := zGr_Ad _ _ a1
      obtain ⟨a5, a6⟩ := hg _ a3
      obtain ⟨a7, a8⟩ := zGr_Nx z a5
      exact ⟨a7, by omega⟩
    · rw [if_neg c] at q ⊢; exact ⟨q, Nat.le_refl _⟩
theorem zGr_One {b : Int → Int} {d lw : Int} {S O C : zT → zT} (hS : zGr S) (hO : zGr O) (hC : zGr C) : zGr (zOne b d lw S O C) := by
  intro z q
  by_cases hz : z.1 = 0
  · refine ⟨hz, ?_⟩
    unfold zOne at q ⊢
    rw [if_pos hz] at q ⊢
    split
    · rename_i g; rw [if_pos g] at q; exact (zGr_c (zGr_Ad _) (zGr_Nu _ _ _) z q).2
    · rename_i g
      rw [if_neg g] at q
      split
      · rename_i g; rw [if_pos g] at q; exact (zGr_c (zGr_Ex _ _) (zGr_c hS (zGr_Op d)) z q).2
      · rename_i g
        rw [if_neg g] at q
        split
        · rename_i g; rw [if_pos g] at q; exact (zGr_c (zGr_Ad _) (zGr_c hO (zGr_Op d)) z q).2
        · rename_i g
          rw [if_neg g] at q
          split
          · rename_i g; rw [if_pos g] at q; exact (zGr_c hC (zGr_Op d) z q).2
          · rename_i g
            rw [if_neg g] at q
            unfold zName at q ⊢
            split
            · rename_i g; rw [if_pos g] at q; exact (zGr_Ref (by decide) z q).2
            · rename_i g
              rw [if_neg g] at q
              split
              · rename_i g; rw [if_pos g] at q; exact (zGr_Ref (by decide) z q).2
              · rename_i g; rw [if_neg g] at q; exact (zGr_c zGr_Nx (zGr_Ad _) z q).2
  · unfold zOne at q; rw [if_neg hz] at q; exact absurd q hz
set_option maxRecDepth 20000 in
theorem ev_X3_readInside_9 {G : gG} {l : Launch} {h0 : ph} {o s : Nat} {b : Int → Int} {n : Nat} : CtS G l h0 o s b n mX3_readInside 1 9 (fun z => z) := by
  intro h z H hw hd
  have hf := H.fl
  refine ev_of (ls := [some (.ref (o + 108)), some (vI 9)]) (by decide +kernel) (Nat.le_of_ble_eq_true rfl) rfl ?_
  refine co_aload_n dX3_readInside_0 rfl ?_
  refine r_getI dX3_readInside_1 H.rs.1.R.1 ?_
  refine co_if_ne (tgt := 18) dX3_readInside_4 rfl (by omega) (fun c4 => ?_) (fun c4 => ?_)
  rotate_left
  · exact absurd c4 (by omega)
  exact co_return dX3_readInside_18 rfl ⟨rfl, H⟩
set_option maxRecDepth 20000 in
theorem ev_X3_readOneInside_9 {G : gG} {l : Launch} {h0 : ph} {o s : Nat} {b : Int → Int} {n : Nat} : CtS G l h0 o s b n mX3_readOneInside 1 9 (fun z => z) := by
  intro h z H hw hd
  have hf := H.fl
  refine ev_of (ls := [some (.ref (o + 108)), some (vI 9)]) (by decide +kernel) (Nat.le_of_ble_eq_true rfl) rfl ?_
  refine co_aload_n dX3_readOneInside_0 rfl ?_
  refine r_getI dX3_readOneInside_1 H.rs.1.R.1 ?_
  refine co_if_ne (tgt := 18) dX3_readOneInside_4 rfl (by omega) (fun c4 => ?_) (fun c4 => ?_)
  rotate_left
  · exact absurd c4 (by omega)
  exact co_return dX3_readOneInside_18 rfl ⟨rfl, H⟩
set_option maxRecDepth 20000 in
theorem ev_X3_readAsk_9 {G : gG} {l : Launch} {h0 : ph} {o s : Nat} {b : Int → Int} {n : Nat} : CtS G l h0 o s b n mX3_readAsk 1 9 (fun z => z) := by
  intro h z H hw hd
  have hf := H.fl
  refine ev_of (ls := [some (.ref (o + 108)), some (vI 9), none]) (by decide +kernel) (Nat.le_of_ble_eq_true rfl) rfl ?_
  refine co_aload_n dX3_readAsk_0 rfl ?_
  refine r_getI dX3_readAsk_1 H.rs.1.R.1 ?_
  refine co_if_ne (tgt := 13) dX3_readAsk_4 rfl (by omega) (fun c4 => ?_) (fun c4 => ?_)
  rotate_left
  · exact absurd c4 (by omega)
  exact co_return dX3_readAsk_13 rfl ⟨rfl, H⟩
