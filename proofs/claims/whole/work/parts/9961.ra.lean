-- ===== what a text's laws say =====
def sg (C : cL) (s e : Int) : cL := (C.drop s.toNat).take (e - s).toNat
theorem sg_of (C0 C1 Cr : cL) : sg (C0 ++ C1 ++ Cr) C0.length ((C0.length : Int) + C1.length) = C1 := by
  unfold sg
  rw [show ((C0.length : Int)).toNat = C0.length by omega, show ((C0.length : Int) + C1.length - C0.length).toNat = C1.length by omega, List.append_assoc, List.drop_left, List.take_left]
/-- the value of the law of sort k -/
noncomputable def lwV (L : kL) (C : cL) (k : Int) (a nm : Int → Int) : Int := match L.find? (fun x => x.1 == k) with
  | some x => (runL a nm (sg C x.2.1 x.2.2) (0, 0, z0, z0)).2.2.1 0
  | none => 0
noncomputable def smN (sm : smT) (n : Int) (L : kL) (C : cL) : smT := fun t k wo a nm => if t = n then (if hasK L k = true then lwV L C k a nm else wo) else sm t k wo a nm
/-- two rows with the same beats -/
def Bt (a a' : Int → Int) : Prop := a' 0 = a 0 ∧ ∀ x : Int, 0 ≤ x ∧ x < a 0 → a' (16 + 4 * x + 2) = a (16 + 4 * x + 2)
theorem mPre_c {a a' : Int → Int} (h : Bt a a') (k x : Int) : mPre a' k x = mPre a k x := by
  unfold mPre
  rw [h.1]
  split
  · rfl
  · split
    · rfl
    · split
      · rename_i q; exact h.2 x q
      · rfl
theorem nxS_c {a a' : Int → Int} (h : Bt a a') (nm : Int → Int) (k v : Int) (s : eT) : nxS a' nm k v s = nxS a nm k v s := by
  unfold nxS
  rw [mPre_c h]
theorem runL_c {a a' : Int → Int} (h : Bt a a') (nm : Int → Int) : ∀ (C : cL) (s : eT), runL a' nm C s = runL a nm C s := by
  intro C
  induction C with
  | nil => intro s; rfl
  | cons x C ih => intro s; rw [runL, runL, nxS_c h, ih]
theorem SmC_N {sm : smT} (H : SmC sm) (n : Int) (L : kL) (C : cL) : SmC (smN sm n L C) := by
  intro t k wo a a' nm e0 eb
  unfold smN
  rw [H t k wo a a' nm e0 eb]
  have : lwV L C k a' nm = lwV L C k a nm := by
    unfold lwV
    split
    · rw [runL_c ⟨e0, eb⟩]
    · rfl
  rw [this]
theorem runS_c {a a' : Int → Int} (h : Bt a a') (nm tx : Int → Int) (c0 : Int) : ∀ (n : Nat) (i : Int) (s : eT), runS a' nm tx c0 n i s = runS a nm tx c0 n i s ∧ (runOK a' nm tx c0 n i s ↔ runOK a nm tx c0 n i s) := by
  intro n
  induction n with
  | zero => intro i s; exact ⟨rfl, Iff.rfl⟩
  | succ n ih =>
    intro i s
    rw [runS, runS, runOK, runOK, nxS_c h]
    exact ⟨(ih _ _).1, and_congr Iff.rfl (ih _ _).2⟩
theorem runS_t {a nm tx T : Int → Int} {c0 : Int} : ∀ (n : Nat) (i : Int) (s : eT), (∀ j : Int, c0 + 2 * i ≤ j ∧ j < c0 + 2 * (i + n) → T j = tx j) → runS a nm T c0 n i s = runS a nm tx c0 n i s ∧ (runOK a nm T c0 n i s ↔ runOK a nm tx c0 n i s) := by
  intro n
  induction n with
  | zero => intro i s _; exact ⟨rfl, Iff.rfl⟩
  | succ n ih =>
    intro i s h
    rw [runS, runS, runOK, runOK, h (c0 + 2 * i) (by omega), h (c0 + 2 * i + 1) (by omega)]
    have := ih (i + 1) (nxS a nm (tx (c0 + 2 * i)) (tx (c0 + 2 * i + 1)) s) (fun j hj => h j (by omega))
    exact ⟨this.1, and_congr Iff.rfl this.2⟩
theorem runS_L {a nm T : Int → Int} {c0 : Int} : ∀ (C : cL) (i : Int) (s : eT), CodeAt T (c0 + 2 * i) C → runS a nm T c0 C.length i s = runL a nm C s ∧ (runOK a nm T c0 C.length i s ↔ okL a nm C s) := by
  intro C
  induction C with
  | nil => intro i s _; exact ⟨rfl, Iff.rfl⟩
  | cons x C ih =>
    intro i s h
    rw [List.length_cons, runS, runOK, runL, okL, h.1, h.2.1]
    have h2 := h.2.2
    rw [show c0 + 2 * i + 2 = c0 + 2 * (i + 1) by omega] at h2
    have := ih (i + 1) (nxS a nm x.1 x.2 s) h2
    exact ⟨this.1, and_congr Iff.rfl this.2⟩
theorem runR_c {a a' : Int → Int} (h : Bt a a') {nm tx : Int → Int} {t k E : Int} (H : runR a nm tx t k E) : runR a' nm tx t k E := by
  refine ⟨H.1, fun V T => ?_⟩
  have := runS_c h nm tx (705 * t + 97) (tx (705 * t + 1 + 4 * k + 2) - tx (705 * t + 1 + 4 * k + 1)).toNat (tx (705 * t + 1 + 4 * k + 1)) (0, 0, V, T)
  rw [this.1, this.2]
  exact H.2 V T
theorem LawV_c {a a' : Int → Int} (h : Bt a a') {nm tx : Int → Int} {t s wo E : Int} (H : LawV a nm tx t s wo E) : LawV a' nm tx t s wo E := by
  rcases H with H | ⟨h0, k, h1, h2, h3, h4⟩
  · exact Or.inl H
  · exact Or.inr ⟨h0, k, h1, h2, h3, runR_c h h4⟩
/-- the text t stands in both rows alike -/
def sameT (tx T : Int → Int) (t : Int) : Prop := ∀ j : Int, 705 * t ≤ j ∧ j < 705 * t + 705 → T j = tx j
theorem LawV_t {a nm tx T : Int → Int} {t s wo E : Int} (e : 0 ≤ t → sameT tx T t) (h24 : 0 ≤ t → tx (705 * t) ≤ 24) (H : LawV a nm tx t s wo E) : LawV a nm T t s wo E := by
  rcases H with ⟨H, hE⟩ | ⟨h0, k, h1, h2, h3, h4⟩
  · refine Or.inl ⟨?_, hE⟩
    by_cases h0 : t < 0
    · exact Or.inl h0
    · rcases H with H | H
      · exact absurd H h0
      · have e := e (by omega)
        have h24 := h24 (by omega)
        unfold sameT at e
        refine Or.inr (fun k hk => ?_)
        rw [e (705 * t) (by omega)] at hk
        rw [e _ (by omega)]
        exact H k hk
  · have e := e h0
    have h24 := h24 h0
    unfold sameT at e
    refine Or.inr ⟨h0, k, by rw [e _ (by omega)]; exact h1, by rw [e _ (by omega)]; exact h2, fun j hj => by rw [e _ (by omega)]; exact h3 j hj, ?_⟩
    obtain ⟨b, r⟩ := h4
    unfold runR
    rw [e (705 * t + 1 + 4 * k + 1) (by omega), e (705 * t + 1 + 4 * k + 2) (by omega)]
    refine ⟨b, fun V W => ?_⟩
    have := runS_t (a := a) (nm := nm) (tx := tx) (T := T) (c0 := 705 * t + 97) (tx (705 * t + 1 + 4 * k + 2) - tx (705 * t + 1 + 4 * k + 1)).toNat (tx (705 * t + 1 + 4 * k + 1)) (0, 0, V, W) (fun j hj => e j (by omega))
    rw [this.1, this.2]
    exact r V W
