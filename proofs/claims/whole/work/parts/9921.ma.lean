-- ===== the two readers alike: how the reference runs on =====
abbrev sS : Type := Nat × List Int × Int × Int × cL
noncomputable def smX (b : Int → Int) (s w0 : Int) (e : Nat) (σ : sS) : Option (Int × Nat × cL) := smR b s w0 e σ.1 σ.2.1 σ.2.2.1 σ.2.2.2.1 σ.2.2.2.2
abbrev gd (w0 : Int) (P : List Int) (n : Int) (C : cL) : Prop := P.length ≤ 140 ∧ (0 ≤ n ∧ n ≤ 8) ∧ w0 + C.length + P.length < 300
/-- from the one state the reference comes to the other -/
def mv (b : Int → Int) (s w0 : Int) (σ σ' : sS) : Prop := σ.1 ≤ σ'.1 ∧ ∀ e : Nat, smX b s w0 (e + (σ'.1 - σ.1)) σ = smX b s w0 e σ'
/-- it gives up at the token j -/
def fl (b : Int → Int) (s w0 : Int) (σ : sS) (f : Int) (j : Nat) : Prop := σ.1 ≤ j ∧ ∃ C9 : cL, ∀ e : Nat, smX b s w0 (e + (j - σ.1) + 1) σ = some (f, j, C9)
section MV
variable {b : Int → Int} {s w0 : Int}
theorem mv.refl (σ : sS) : mv b s w0 σ σ := ⟨Nat.le_refl _, fun e => by rw [Nat.sub_self]; rfl⟩
theorem mv.trans {σ σ' σ2 : sS} (h : mv b s w0 σ σ') (k : mv b s w0 σ' σ2) : mv b s w0 σ σ2 := by
  refine ⟨Nat.le_trans h.1 k.1, fun e => ?_⟩
  have h1 := h.1
  have k1 := k.1
  rw [← k.2 e, ← h.2 (e + (σ2.1 - σ'.1)), show e + (σ2.1 - σ'.1) + (σ'.1 - σ.1) = e + (σ2.1 - σ.1) by omega]
theorem mv.fl {σ σ' : sS} {f : Int} {j : Nat} (h : mv b s w0 σ σ') (k : fl b s w0 σ' f j) : fl b s w0 σ f j := by
  obtain ⟨k1, C9, k2⟩ := k
  have h1 := h.1
  refine ⟨Nat.le_trans h1 k1, C9, fun e => ?_⟩
  rw [← k2 e, ← h.2 (e + (j - σ'.1) + 1), show e + (j - σ'.1) + 1 + (σ'.1 - σ.1) = e + (j - σ.1) + 1 by omega]
theorem mv_0 {i : Nat} {P P' : List Int} {n n' wh' : Int} {C C' : cL} (g : gd w0 P n C) (h : bgS (tK b (tP b i)) (tN b (tP b i)) s i P n C = (0, i + 1, P', n', wh', C')) : mv b s w0 (i, P, n, 0, C) (i + 1, P', n', wh', C') := by
  refine ⟨Nat.le_succ i, fun e => ?_⟩
  show smR b s w0 (e + (i + 1 - i)) i P n 0 C = smR b s w0 e (i + 1) P' n' wh' C'
  rw [show e + (i + 1 - i) = e + 1 by omega, smR, pif_t g, pif_f (by decide), pif_t rfl, h, pif_t rfl]
theorem fl_0 {i : Nat} {P P' : List Int} {n n' wh' f : Int} {C C' : cL} (g : gd w0 P n C) (h : bgS (tK b (tP b i)) (tN b (tP b i)) s i P n C = (f, i, P', n', wh', C')) (hf : f ≠ 0) : fl b s w0 (i, P, n, 0, C) f i := by
  refine ⟨Nat.le_refl i, C', fun e => ?_⟩
  show smR b s w0 (e + (i - i) + 1) i P n 0 C = _
  rw [Nat.sub_self, Nat.add_zero, smR, pif_t g, pif_f (by decide), pif_t rfl, h, pif_f hf]
theorem mv_1 {i : Nat} {P P' : List Int} {n n' wh' : Int} {C C' : cL} (g : gd w0 P n C) (h : bhS (tK b (tP b i)) i P n C = (1, i + 1, P', n', wh', C')) : mv b s w0 (i, P, n, 1, C) (i + 1, P', n', wh', C') := by
  refine ⟨Nat.le_succ i, fun e => ?_⟩
  show smR b s w0 (e + (i + 1 - i)) i P n 1 C = smR b s w0 e (i + 1) P' n' wh' C'
  rw [show e + (i + 1 - i) = e + 1 by omega, smR, pif_t g, pif_t rfl, h, pif_t rfl]
theorem fl_1 {i : Nat} {P : List Int} {n : Int} {C : cL} (g : gd w0 P n C) (h : (bhS (tK b (tP b i)) i P n C).1 = 0) (ho : 0 ≤ onw P) : fl b s w0 (i, P, n, 1, C) 1 i := by
  refine ⟨Nat.le_refl i, C, fun e => ?_⟩
  show smR b s w0 (e + (i - i) + 1) i P n 1 C = _
  rw [Nat.sub_self, Nat.add_zero, smR, pif_t g, pif_t rfl, h, pif_f (by decide), pif_t ho]
theorem en_1 {i e : Nat} {P : List Int} {n : Int} {C : cL} (g : gd w0 P n C) (h : (bhS (tK b (tP b i)) i P n C).1 = 0) (ho : ¬ 0 ≤ onw P) : smX b s w0 (e + 1) (i, P, n, 1, C) = some (0, i, C ++ eV2 (tk 1 P)) := by
  show smR b s w0 (e + 1) i P n 1 C = _
  rw [smR, pif_t g, pif_t rfl, h, pif_f (by decide), pif_f ho]
end MV
theorem mRk_40 {x : Int} (h : 1 ≤ mRk x) : ¬ 40 ≤ x := fun q => by unfold mRk at h; rw [if_pos q] at h; omega
theorem onw_app {V P : List Int} (h : ∀ x ∈ V, 1 ≤ mRk x) : onw (V ++ P) = onw P := by
  induction V with
  | nil => rfl
  | cons x V ih => rw [List.cons_append, onw, if_neg (mRk_40 (h x List.mem_cons_self))]; exact ih (fun y hy => h y (List.mem_cons_of_mem _ hy))
theorem icm_app {V P : List Int} (h : ∀ x ∈ V, 5 ≤ mRk x) : icm (V ++ P) = icm P := by
  induction V with
  | nil => rfl
  | cons x V ih => rw [List.cons_append, icm, if_pos (by have := h x List.mem_cons_self; omega)]; exact ih (fun y hy => h y (List.mem_cons_of_mem _ hy))
theorem cOs_app (V W : List Int) : cOs (V ++ W) = cOs V + cOs W := by
  induction V with
  | nil => rw [List.nil_append]; show _ = 0 + _; omega
  | cons x V ih => rw [List.cons_append, cOs_c, cOs_c, ih]; omega
theorem cOs_0 {V : List Int} (h : ∀ x ∈ V, mRk x ≠ 7 ∧ x ≠ 20) : cOs V = 0 := by
  induction V with
  | nil => rfl
  | cons x V ih =>
    rw [cOs_c, ih (fun y hy => h y (List.mem_cons_of_mem _ hy))]
    have := h x List.mem_cons_self
    unfold cO
    rw [if_neg (by omega)]
    rfl
theorem eV2_app (V W : List Int) : eV2 (V ++ W) = eV2 V ++ eV2 W := List.map_append
theorem zor_b {x y : Int} (hx : x = 0 ∨ x = 1) (hy : y = 0 ∨ y = 1) : zor x y ≠ 0 ↔ (x = 1 ∨ y = 1) := by
  rcases hx with rfl | rfl <;> rcases hy with rfl | rfl <;> decide +kernel
theorem zand_b {x y : Int} (hx : x = 0 ∨ x = 1) (hy : y = 0 ∨ y = 1) : zand x y ≠ 0 ↔ (x = 1 ∧ y = 1) := by
  rcases hx with rfl | rfl <;> rcases hy with rfl | rfl <;> decide +kernel
