-- ===== the reference: the pile =====
abbrev cL : Type := List (Int × Int)
def PileAt (p : Int → Int) : List Int → Prop
  | [] => True
  | x :: P => p P.length = x ∧ PileAt p P
def CodeAt (t : Int → Int) : Int → cL → Prop
  | _, [] => True
  | c, x :: C => t c = x.1 ∧ t (c + 1) = x.2 ∧ CodeAt t (c + 2) C
theorem PileAt_u {p : Int → Int} {v : Int} : ∀ {P : List Int} {j : Int}, (P.length : Int) ≤ j → PileAt p P → PileAt (u1 p j v) P := by
  intro P
  induction P with
  | nil => intro j _ _; trivial
  | cons x P ih =>
    intro j hj h
    have hl : ((x :: P).length : Int) = (P.length : Int) + 1 := by simp
    refine ⟨?_, ih (by omega) h.2⟩
    rw [u1_n _ _ (by omega)]
    exact h.1
theorem CodeAt_u {t : Int → Int} {v : Int} : ∀ {C : cL} {c j : Int}, (j < c ∨ c + 2 * (C.length : Int) ≤ j) → CodeAt t c C → CodeAt (u1 t j v) c C := by
  intro C
  induction C with
  | nil => intro c j _ _; trivial
  | cons x C ih =>
    intro c j hj h
    have hl : ((x :: C).length : Int) = (C.length : Int) + 1 := by simp
    refine ⟨?_, ?_, ih (by omega) h.2.2⟩
    · rw [u1_n _ _ (by omega)]; exact h.1
    · rw [u1_n _ _ (by omega)]; exact h.2.1
theorem CodeAt_x {t t2 : Int → Int} : ∀ {C : cL} {c : Int}, (∀ j : Int, c ≤ j ∧ j < c + 2 * (C.length : Int) → t2 j = t j) → CodeAt t c C → CodeAt t2 c C := by
  intro C
  induction C with
  | nil => intro c _ _; trivial
  | cons x C ih =>
    intro c hj h
    have hl : ((x :: C).length : Int) = (C.length : Int) + 1 := by simp
    refine ⟨?_, ?_, ih (fun j q => hj j (by omega)) h.2.2⟩
    · rw [hj c (by omega)]; exact h.1
    · rw [hj (c + 1) (by omega)]; exact h.2.1
theorem CodeAt_app {t : Int → Int} : ∀ {C D : cL} {c : Int}, CodeAt t c (C ++ D) ↔ CodeAt t c C ∧ CodeAt t (c + 2 * (C.length : Int)) D := by
  intro C
  induction C with
  | nil => intro D c; simp [CodeAt]
  | cons x C ih =>
    intro D c
    have hl : ((x :: C).length : Int) = (C.length : Int) + 1 := by simp
    show (t c = x.1 ∧ t (c + 1) = x.2 ∧ CodeAt t (c + 2) (C ++ D)) ↔ (t c = x.1 ∧ t (c + 1) = x.2 ∧ CodeAt t (c + 2) C) ∧ _
    rw [ih, hl, show c + 2 * ((C.length : Int) + 1) = c + 2 + 2 * (C.length : Int) by omega]
    constructor
    · rintro ⟨a1, a2, a3, a4⟩; exact ⟨⟨a1, a2, a3⟩, a4⟩
    · rintro ⟨⟨a1, a2, a3⟩, a4⟩; exact ⟨a1, a2, a3, a4⟩
theorem CodeAt_e {t : Int → Int} {C : cL} {c j x v : Int} (hj : j = c + 2 * (C.length : Int)) (h : CodeAt t c C) : CodeAt (u1 (u1 t j x) (j + 1) v) c (C ++ [(x, v)]) := by
  rw [CodeAt_app]
  refine ⟨CodeAt_u (Or.inr (by omega)) (CodeAt_u (Or.inr (by omega)) h), ?_, ?_, trivial⟩
  · rw [← hj, u1_n _ _ (by omega), u1_s]
  · rw [← hj, u1_s]
def FrJ (j : Int) : Prop := j < 7 ∨ j = 11 ∨ j = 12 ∨ j = 14 ∨ j = 15 ∨ 19 ≤ j
/-- the reference within a law: at the token i, its pile P, n open, wh: whether one stands, C written since w0 -/
def Ms (b f0 t0 : Int → Int) (w0 : Int) (f : Int → Int) (w : Int) (t p : Int → Int) (i : Nat) (P : List Int) (n wh : Int) (C : cL) : Prop :=
  Tk b f w i ∧ (f 13 = w0 + C.length ∧ f 16 = P.length ∧ f 17 = n ∧ f 18 = wh) ∧ (∀ j : Int, FrJ j → f j = f0 j) ∧ PileAt p P ∧ CodeAt t (f0 12 + 97 + 2 * w0) C ∧ (∀ j : Int, j < f0 12 + 97 + 2 * w0 ∨ f0 12 + 705 ≤ j → t j = t0 j) ∧ (∀ x ∈ P, 0 ≤ x ∧ x ≤ 43)
def eM (z : Option Value) (h : ph) (o : Nat) (b f0 t0 : Int → Int) (w0 : Int) (i : Nat) (P : List Int) (n wh : Int) (C : cL) : Option Value → ph → Prop := fun r h1 => r = z ∧ ∃ (f : Int → Int) (w : Int) (t p : Int → Int), h1 = mH h o f w t p ∧ Ms b f0 t0 w0 f w t p i P n wh C
theorem Tk_u {b f : Int → Int} {w : Int} {i : Nat} (hk : Tk b f w i) {j : Int} (v : Int) (hj : j < 7 ∨ 10 < j) : Tk b (u1 f j v) w i := by
  unfold Tk
  rw [u1_n _ _ (by omega), u1_n _ _ (by omega), u1_n _ _ (by omega), u1_n _ _ (by omega)]
  exact hk
section MMM
variable {b f0 t0 f t p : Int → Int} {w0 w n wh : Int} {i : Nat} {P : List Int} {C : cL}
theorem Ms.tk (H : Ms b f0 t0 w0 f w t p i P n wh C) : Tk b f w i := H.1
theorem Ms.f4 (H : Ms b f0 t0 w0 f w t p i P n wh C) : f 4 = f0 4 := H.2.2.1 4 (Or.inl (by decide))
theorem Ms.f12 (H : Ms b f0 t0 w0 f w t p i P n wh C) : f 12 = f0 12 := H.2.2.1 12 (Or.inr (Or.inr (Or.inl rfl)))
theorem Ms.f14 (H : Ms b f0 t0 w0 f w t p i P n wh C) : f 14 = f0 14 := H.2.2.1 14 (Or.inr (Or.inr (Or.inr (Or.inl rfl))))
theorem Ms.f13 (H : Ms b f0 t0 w0 f w t p i P n wh C) : f 13 = w0 + C.length := H.2.1.1
theorem Ms.f16 (H : Ms b f0 t0 w0 f w t p i P n wh C) : f 16 = P.length := H.2.1.2.1
theorem Ms.f17 (H : Ms b f0 t0 w0 f w t p i P n wh C) : f 17 = n := H.2.1.2.2.1
theorem Ms.f18 (H : Ms b f0 t0 w0 f w t p i P n wh C) : f 18 = wh := H.2.1.2.2.2
theorem fr_u {f f0 : Int → Int} (H : ∀ j : Int, FrJ j → f j = f0 j) {k : Int} (v : Int) (hk : ¬ FrJ k) : ∀ j : Int, FrJ j → u1 f k v j = f0 j := fun j hj => by
  rw [u1_n _ _ (by intro e; subst e; exact hk hj)]; exact H j hj
theorem Ms.s17 (H : Ms b f0 t0 w0 f w t p i P n wh C) (m : Int) : Ms b f0 t0 w0 (u1 f 17 m) w t p i P m wh C := by
  obtain ⟨a1, ⟨a2, a3, a4, a5⟩, a6, a7⟩ := H
  refine ⟨Tk_u a1 m (by decide), ⟨?_, ?_, ?_, ?_⟩, fr_u a6 m (by unfold FrJ; omega), a7⟩
  · rw [u1_n _ _ (by decide)]; exact a2
  · rw [u1_n _ _ (by decide)]; exact a3
  · rw [u1_s]
  · rw [u1_n _ _ (by decide)]; exact a5
theorem Ms.s18 (H : Ms b f0 t0 w0 f w t p i P n wh C) (m : Int) : Ms b f0 t0 w0 (u1 f 18 m) w t p i P n m C := by
  obtain ⟨a1, ⟨a2, a3, a4, a5⟩, a6, a7⟩ := H
  refine ⟨Tk_u a1 m (by decide), ⟨?_, ?_, ?_, ?_⟩, fr_u a6 m (by unfold FrJ; omega), a7⟩
  · rw [u1_n _ _ (by decide)]; exact a2
  · rw [u1_n _ _ (by decide)]; exact a3
  · rw [u1_n _ _ (by decide)]; exact a4
  · rw [u1_s]
theorem Ms.pop {x : Int} (H : Ms b f0 t0 w0 f w t p i (x :: P) n wh C) {m : Int} (hm : m = P.length) : Ms b f0 t0 w0 (u1 f 16 m) w t p i P n wh C := by
  obtain ⟨a1, ⟨a2, a3, a4, a5⟩, a6, a7, a8, a9, a10⟩ := H
  refine ⟨Tk_u a1 m (by decide), ⟨?_, ?_, ?_, ?_⟩, fr_u a6 m (by unfold FrJ; omega), a7.2, a8, a9, fun y hy => a10 y (List.mem_cons_of_mem _ hy)⟩
  · rw [u1_n _ _ (by decide)]; exact a2
  · rw [u1_s]; exact hm
  · rw [u1_n _ _ (by decide)]; exact a4
  · rw [u1_n _ _ (by decide)]; exact a5
theorem Ms.push (H : Ms b f0 t0 w0 f w t p i P n wh C) {x j m : Int} (hx : 0 ≤ x ∧ x ≤ 43) (hj : j = P.length) (hm : m = P.length + 1) : Ms b f0 t0 w0 (u1 f 16 m) w t (u1 p j x) i (x :: P) n wh C := by
  obtain ⟨a1, ⟨a2, a3, a4, a5⟩, a6, a7, a8, a9, a10⟩ := H
  refine ⟨Tk_u a1 m (by decide), ⟨?_, ?_, ?_, ?_⟩, fr_u a6 m (by unfold FrJ; omega), ⟨?_, PileAt_u (by omega) a7⟩, a8, a9, ?_⟩
  · rw [u1_n _ _ (by decide)]; exact a2
  · rw [u1_s, hm]; simp
  · rw [u1_n _ _ (by decide)]; exact a4
  · rw [u1_n _ _ (by decide)]; exact a5
  · rw [hj, u1_s]
  · intro y hy
    rcases List.mem_cons.mp hy with e | e
    · rw [e]; exact hx
    · exact a10 y e
theorem Ms.emit (H : Ms b f0 t0 w0 f w t p i P n wh C) {x v j m : Int} (hw : 0 ≤ w0 ∧ w0 + C.length < 300) (hj : j = f0 12 + 97 + 2 * (w0 + C.length)) (hm : m = w0 + C.length + 1) : Ms b f0 t0 w0 (u1 f 13 m) w (u1 (u1 t j x) (j + 1) v) p i P n wh (C ++ [(x, v)]) := by
  obtain ⟨a1, ⟨a2, a3, a4, a5⟩, a6, a7, a8, a9, a10⟩ := H
  refine ⟨Tk_u a1 m (by decide), ⟨?_, ?_, ?_, ?_⟩, fr_u a6 m (by unfold FrJ; omega), a7, CodeAt_e (by omega) a8, ?_, a10⟩
  · rw [u1_s, hm]; simp; omega
  · rw [u1_n _ _ (by decide)]; exact a3
  · rw [u1_n _ _ (by decide)]; exact a4
  · rw [u1_n _ _ (by decide)]; exact a5
  · intro k hk
    rw [u1_n _ _ (by omega), u1_n _ _ (by omega)]
    exact a9 k hk
theorem Ms.fr {f' : Int → Int} {w' : Int} {i' : Nat} (H : Ms b f0 t0 w0 f w t p i P n wh C) (hf : Fr f f') (hk : Tk b f' w' i') : Ms b f0 t0 w0 f' w' t p i' P n wh C := by
  obtain ⟨a1, ⟨a2, a3, a4, a5⟩, a6, a7⟩ := H
  refine ⟨hk, ⟨?_, ?_, ?_, ?_⟩, fun j hj => by rw [hf j (by unfold FrJ at hj; omega)]; exact a6 j hj, a7⟩
  · rw [hf 13 (by decide)]; exact a2
  · rw [hf 16 (by decide)]; exact a3
  · rw [hf 17 (by decide)]; exact a4
  · rw [hf 18 (by decide)]; exact a5
end MMM
/-- what stands fixed within a law -/
def Rl (h : ph) (o : Nat) (b f0 : Int → Int) (w0 : Int) : Prop := Rd h o (f0 4) b ∧ 0 ≤ w0 ∧ (0 ≤ f0 12 ∧ f0 12 ≤ 2115) ∧ (0 ≤ f0 14 ∧ f0 14 ≤ 2)
theorem ev_emit {G : gG} {l : Launch} {h : ph} {o : Nat} {b f0 t0 f t p : Int → Int} {w0 w n wh x v : Int} {i : Nat} {P : List Int} {C : cL} (R : Rl h o b f0 w0) (H : Ms b f0 t0 w0 f w t p i P n wh C) (hc : w0 + C.length < 300) : Ev G l mX11_emit 0 0 0 [.ref o, vI x, vI v] (mH h o f w t p) (eV (mH h o (u1 f 13 (w0 + C.length + 1)) w (u1 (u1 t (f0 12 + 97 + 2 * (w0 + C.length)) x) (f0 12 + 97 + 2 * (w0 + C.length) + 1) v) p)) := by
  have r2 := R.2.1
  have r3 := R.2.2.1
  have hq := ev_X11_emit (G := G) (l := l) (h := mH h o f w t p) (o := o) (x := x) (v := v) R.1.1 (by rw [mH_0, H.f12, H.f13]; omega)
  have e : mEmit (mH h o f w t p) o x v = mH h o (u1 f 13 (w0 + C.length + 1)) w (u1 (u1 t (f0 12 + 97 + 2 * (w0 + C.length)) x) (f0 12 + 97 + 2 * (w0 + C.length) + 1) v) p := by
    unfold mEmit
    rw [mH_0, H.f12, H.f13, mH_s3, mH_s3, mH_s0]
  rw [e] at hq
  exact hq
def cO (x : Int) : Int := if mRk x = 7 ∨ x = 20 then 1 else 0
def cOs : List Int → Int
  | [] => 0
  | x :: V => cO x + cOs V
theorem cOs_c (x : Int) (V : List Int) : cOs (x :: V) = cO x + cOs V := rfl
def eV2 (V : List Int) : cL := V.map (fun x => (x, 0))
theorem mRk_r (x : Int) : 0 ≤ mRk x ∧ mRk x ≤ 7 := by unfold mRk; repeat' split <;> omega
def lowP (least : Int) : List Int → Prop
  | [] => True
  | x :: _ => mRk x < least
theorem pile_top {p : Int → Int} {x : Int} {P : List Int} {j : Int} (h : PileAt p (x :: P)) (hj : j = P.length) : p j = x := by rw [hj]; exact h.1
set_option maxRecDepth 20000 in
theorem ev_X11_settle {G : gG} {l : Launch} {h : ph} {o : Nat} {b f0 t0 f t p : Int → Int} {w0 w n wh le : Int} {i : Nat} {V B : List Int} {C : cL} (R : Rl h o b f0 w0) (H : Ms b f0 t0 w0 f w t p i (V ++ B) n wh C) (hV : ∀ x ∈ V, le ≤ mRk x) (hB : lowP le B) (hc : w0 + C.length + V.length ≤ 300) (hl : (V ++ B).length ≤ 150) (hle : -1000 ≤ le ∧ le ≤ 1000) : Ev G l mX11_settle 1 0 0 [.ref o, vI le] (mH h o f w t p) (eM none h o b f0 t0 w0 i B (n - cOs V) wh (C ++ eV2 V)) := by
  have hM := R.1.1
  refine ev_of (ls := [some (.ref o), some (vI le)]) (by decide +kernel) (Nat.le_of_ble_eq_true rfl) rfl ?_
  have loop : ∀ (V : List Int) (C : cL) (n : Int) (f : Int → Int) (w : Int) (t p : Int → Int), (∀ x ∈ V, le ≤ mRk x) → Ms b f0 t0 w0 f w t p i (V ++ B) n wh C → w0 + C.length + V.length ≤ 300 → (V ++ B).length ≤ 150 → Co G l mX11_settle 1 0 0 0 0 0 [some (.ref o), some (vI le)] [] (mH h o f w t p) (eM none h o b f0 t0 w0 i B (n - cOs V) wh (C ++ eV2 V)) := by
    intro V
    induction V with
    | nil =>
      intro C n f w t p hV H hc hl
      have e16 := H.f16
      rw [List.nil_append] at H e16 hl
      have hfin : ∀ x, x = some (vI 0) → eM none h o b f0 t0 w0 i B (n - cOs []) wh (C ++ eV2 []) none (mH h o f w t p) := fun _ _ => by
        refine ⟨rfl, f, w, t, p, rfl, ?_⟩
        rw [show n - cOs [] = n by unfold cOs; omega, show C ++ eV2 [] = C by unfold eV2; simp]
        exact H
      cases B with
      | nil =>
        have e16' : f 16 = 0 := by rw [e16]; rfl
        have etop : f 16 = 0 := e16'
        refine co_aload_n dX11_settle_0 rfl ?_
        refine r_getI dX11_settle_1 hM.ob ?_
        try simp only [mH_0]
        refine co_if_le (tgt := 93) dX11_settle_4 rfl (by omega) (fun c4 => ?_) (fun c4 => ?_)
        rotate_left
        · exact absurd c4 (by omega)
        exact co_return dX11_settle_93 rfl (hfin _ rfl)
      | cons y B =>
        have e17 : ((y :: B).length : Int) = (B.length : Int) + 1 := by simp
        have etop := pile_top (j := f 16 - 1) H.2.2.2.1 (by omega)
        have hy := H.2.2.2.2.2.2 y List.mem_cons_self
        have hlow : mRk y < le := hB
        have hrk := mRk_r y
        refine co_aload_n dX11_settle_0 rfl ?_
        refine r_getI dX11_settle_1 hM.ob ?_
        try simp only [mH_0, mH_5, etop]
        refine co_if_le (tgt := 93) dX11_settle_4 rfl (by omega) (fun c4 => ?_) (fun c4 => ?_)
        · exact absurd c4 (by omega)
        refine co_aload_n dX11_settle_7 rfl ?_
        refine r_getR dX11_settle_8 hM.ob hM.r_pile ?_
        refine co_aload_n dX11_settle_11 rfl ?_
        refine r_getI dX11_settle_12 hM.ob ?_
        try simp only [mH_0, mH_5, etop]
        refine co_iconst dX11_settle_15 ?_
        refine co_isub dX11_settle_16 ?_
        refine r_iald dX11_settle_17 hM.q_pile (by omega) ?_
        try simp only [mH_0, mH_5, etop]
        refine c_sI dX11_settle_18 (ev_X11_rank (by omega)) (by decide) rfl rfl (Nat.le_of_ble_eq_true rfl) ?_
        refine co_iload_n dX11_settle_21 rfl ?_
        refine co_icmp_lt (tgt := 93) dX11_settle_22 rfl (by omega) (by omega) (fun c22 => ?_) (fun c22 => ?_)
        rotate_left
        · exact absurd c22 (by omega)
        exact co_return dX11_settle_93 rfl (hfin _ rfl)
    | cons x V ih =>
      intro C n f w t p hV H hc hl
      have e16 := H.f16
      rw [List.cons_append] at H e16 hl
      have e17 : ((x :: (V ++ B)).length : Int) = ((V ++ B).length : Int) + 1 := by simp
      have e18 : ((x :: V).length : Int) = (V.length : Int) + 1 := by simp
      have etop := pile_top (j := f 16 - 1) H.2.2.2.1 (by omega)
      have hx := H.2.2.2.2.2.2 x List.mem_cons_self
      have hle := hV x List.mem_cons_self
      have hrk := mRk_r x
      have H2 := H.pop (m := f 16 - 1) (by omega)
      have H3 := H2.emit (x := x) (v := 0) ⟨R.2.1, by omega⟩ rfl rfl
      have ec : C ++ eV2 (x :: V) = (C ++ [(x, 0)]) ++ eV2 V := by unfold eV2; simp
      rw [ec]
      have hlc : ((C ++ [(x, (0 : Int))]).length : Int) = (C.length : Int) + 1 := by simp
      refine co_aload_n dX11_settle_0 rfl ?_
      refine r_getI dX11_settle_1 hM.ob ?_
      try simp (disch := omega) only [mH_s0, mH_0, mH_5, u1_s, u1_n, etop]
      refine co_if_le (tgt := 93) dX11_settle_4 rfl (by omega) (fun c4 => ?_) (fun c4 => ?_)
      · exact absurd c4 (by omega)
      refine co_aload_n dX11_settle_7 rfl ?_
      refine r_getR dX11_settle_8 hM.ob hM.r_pile ?_
      refine co_aload_n dX11_settle_11 rfl ?_
      refine r_getI dX11_settle_12 hM.ob ?_
      try simp (disch := omega) only [mH_s0, mH_0, mH_5, u1_s, u1_n, etop]
      refine co_iconst dX11_settle_15 ?_
      refine co_isub dX11_settle_16 ?_
      refine r_iald dX11_settle_17 hM.q_pile (by omega) ?_
      try simp (disch := omega) only [mH_s0, mH_0, mH_5, u1_s, u1_n, etop]
      refine c_sI dX11_settle_18 (ev_X11_rank (by omega)) (by decide) rfl rfl (Nat.le_of_ble_eq_true rfl) ?_
      refine co_iload_n dX11_settle_21 rfl ?_
      refine co_icmp_lt (tgt := 93) dX11_settle_22 rfl (by omega) (by omega) (fun c22 => ?_) (fun c22 => ?_)
      · exact absurd c22 (by omega)
      refine co_aload_n dX11_settle_25 rfl ?_
      refine co_dup dX11_settle_26 rfl ?_
      refine r_getI dX11_settle_27 hM.ob ?_
      try simp (disch := omega) only [mH_s0, mH_0, mH_5, u1_s, u1_n, etop]
      refine co_iconst dX11_settle_30 ?_
      refine co_isub dX11_settle_31 ?_
      refine r_putI dX11_settle_32 hM.ob ?_
      try simp (disch := omega) only [mH_s0, mH_0, mH_5, u1_s, u1_n, etop]
      refine co_aload_n dX11_settle_35 rfl ?_
      refine co_aload_n dX11_settle_36 rfl ?_
      refine r_getR dX11_settle_37 hM.ob hM.r_pile ?_
      refine co_aload_n dX11_settle_40 rfl ?_
      refine r_getI dX11_settle_41 hM.ob ?_
      try simp (disch := omega) only [mH_s0, mH_0, mH_5, u1_s, u1_n, etop]
      refine r_iald dX11_settle_44 hM.q_pile (by omega) ?_
      try simp (disch := omega) only [mH_s0, mH_0, mH_5, u1_s, u1_n, etop]
      refine co_iconst dX11_settle_45 ?_
      refine c_vV dX11_settle_46 (ev_emit R H2 (by omega)) (by decide) hM.ob rfl rfl (Nat.le_of_ble_eq_true rfl) ?_
      refine co_aload_n dX11_settle_49 rfl ?_
      refine r_getR dX11_settle_50 hM.ob hM.r_pile ?_
      refine co_aload_n dX11_settle_53 rfl ?_
      refine r_getI dX11_settle_54 hM.ob ?_
      try simp (disch := omega) only [mH_s0, mH_0, mH_5, u1_s, u1_n, etop]
      refine r_iald dX11_settle_57 hM.q_pile (by omega) ?_
      try simp (disch := omega) only [mH_s0, mH_0, mH_5, u1_s, u1_n, etop]
      refine c_sI dX11_settle_58 (ev_X11_rank (by omega)) (by decide) rfl rfl (Nat.le_of_ble_eq_true rfl) ?_
      refine co_bipush (z := 7) dX11_settle_61 rfl ?_
      refine co_icmp_eq (tgt := 80) dX11_settle_63 rfl (by omega) (by omega) (fun c63 => ?_) (fun c63 => ?_)
      · refine co_aload_n dX11_settle_80 rfl ?_
        refine co_dup dX11_settle_81 rfl ?_
        refine r_getI dX11_settle_82 hM.ob ?_
        try simp (disch := omega) only [mH_s0, mH_0, mH_5, u1_s, u1_n, etop]
        refine co_iconst dX11_settle_85 ?_
        refine co_isub dX11_settle_86 ?_
        refine r_putI dX11_settle_87 hM.ob ?_
        try simp (disch := omega) only [mH_s0, mH_0, mH_5, u1_s, u1_n, etop]
        refine co_goto (tgt := 0) dX11_settle_90 rfl ?_
        rw [show n - cOs (x :: V) = n - 1 - cOs V by rw [cOs_c, cO, if_pos (by omega)]; omega]
        exact ih _ (n - 1) _ _ _ _ (fun y hy => hV y (List.mem_cons_of_mem _ hy)) (by rw [H.f17]; exact H3.s17 (n - 1)) (by omega) (by omega)
      · refine co_aload_n dX11_settle_66 rfl ?_
        refine r_getR dX11_settle_67 hM.ob hM.r_pile ?_
        refine co_aload_n dX11_settle_70 rfl ?_
        refine r_getI dX11_settle_71 hM.ob ?_
        try simp (disch := omega) only [mH_s0, mH_0, mH_5, u1_s, u1_n, etop]
        refine r_iald dX11_settle_74 hM.q_pile (by omega) ?_
        try simp (disch := omega) only [mH_s0, mH_0, mH_5, u1_s, u1_n, etop]
        refine co_bipush (z := 20) dX11_settle_75 rfl ?_
        refine co_icmp_ne (tgt := 0) dX11_settle_77 rfl (by omega) (by omega) (fun c77 => ?_) (fun c77 => ?_)
        · rw [show n - cOs (x :: V) = n - cOs V by rw [cOs_c, cO, if_neg (by omega)]; omega]
          exact ih _ n _ _ _ _ (fun y hy => hV y (List.mem_cons_of_mem _ hy)) H3 (by omega) (by omega)
        · refine co_aload_n dX11_settle_80 rfl ?_
          refine co_dup dX11_settle_81 rfl ?_
          refine r_getI dX11_settle_82 hM.ob ?_
          try simp (disch := omega) only [mH_s0, mH_0, mH_5, u1_s, u1_n, etop]
          refine co_iconst dX11_settle_85 ?_
          refine co_isub dX11_settle_86 ?_
          refine r_putI dX11_settle_87 hM.ob ?_
          try simp (disch := omega) only [mH_s0, mH_0, mH_5, u1_s, u1_n, etop]
          refine co_goto (tgt := 0) dX11_settle_90 rfl ?_
          rw [show n - cOs (x :: V) = n - 1 - cOs V by rw [cOs_c, cO, if_pos (by omega)]; omega]
          exact ih _ (n - 1) _ _ _ _ (fun y hy => hV y (List.mem_cons_of_mem _ hy)) (by rw [H.f17]; exact H3.s17 (n - 1)) (by omega) (by omega)
  exact loop V C n f w t p hV H hc hl
