-- ===== the two readers alike: clauses =====
/-- a law of the one code and of the other: they say one thing -/
def LwR (k : Int) (C D : cL) (s e s' e' : Int) : Prop := ∃ C0 C1 Cr D0 D1 Dr : cL, C = C0 ++ C1 ++ Cr ∧ s = (C0.length : Int) ∧ e = (C0.length : Int) + C1.length ∧ D = D0 ++ D1 ++ Dr ∧ s' = (D0.length : Int) ∧ e' = (D0.length : Int) + D1.length ∧ SV k D0.length C1 D1 3
def KE (C D : cL) (x y : Int × Int × Int) : Prop := x.1 = y.1 ∧ (3 ≤ x.1 → x.2 = y.2) ∧ (x.1 ≤ 2 → LwR x.1 C D x.2.1 x.2.2 y.2.1 y.2.2)
def KR (C D : cL) : kL → kL → Prop
  | [], [] => True
  | x :: L, y :: M => KE C D x y ∧ KR C D L M
  | _, _ => False
theorem LwR.app {k : Int} {C D : cL} {s e s' e' : Int} (h : LwR k C D s e s' e') (C2 D2 : cL) : LwR k (C ++ C2) (D ++ D2) s e s' e' := by
  obtain ⟨C0, C1, Cr, D0, D1, Dr, a1, a2, a3, a4, a5, a6, a7⟩ := h
  exact ⟨C0, C1, Cr ++ C2, D0, D1, Dr ++ D2, by rw [a1]; simp only [List.append_assoc], a2, a3, by rw [a4]; simp only [List.append_assoc], a5, a6, a7⟩
theorem KR.app {C D : cL} (C2 D2 : cL) : ∀ {L M : kL}, KR C D L M → KR (C ++ C2) (D ++ D2) L M := by
  intro L
  induction L with
  | nil => intro M h; cases M with
    | nil => trivial
    | cons y M => exact h
  | cons x L ih => intro M h; cases M with
    | nil => exact h
    | cons y M => exact ⟨⟨h.1.1, h.1.2.1, fun q => (h.1.2.2 q).app C2 D2⟩, ih h.2⟩
theorem KR.snoc {C D : cL} {x y : Int × Int × Int} (hxy : KE C D x y) : ∀ {L M : kL}, KR C D L M → KR C D (L ++ [x]) (M ++ [y]) := by
  intro L
  induction L with
  | nil => intro M h; cases M with
    | nil => exact ⟨hxy, trivial⟩
    | cons y M => exact absurd h (fun z => z)
  | cons x L ih => intro M h; cases M with
    | nil => exact absurd h (fun z => z)
    | cons y M => exact ⟨h.1, ih h.2⟩
theorem KR.len {C D : cL} : ∀ {L M : kL}, KR C D L M → L.length = M.length := by
  intro L
  induction L with
  | nil => intro M h; cases M with
    | nil => rfl
    | cons y M => exact absurd h (fun z => z)
  | cons x L ih => intro M h; cases M with
    | nil => exact absurd h (fun z => z)
    | cons y M => rw [List.length_cons, List.length_cons, ih h.2]
theorem KR.has {C D : cL} (k : Int) : ∀ {L M : kL}, KR C D L M → hasK L k = hasK M k := by
  intro L
  induction L with
  | nil => intro M h; cases M with
    | nil => rfl
    | cons y M => exact absurd h (fun z => z)
  | cons x L ih => intro M h; cases M with
    | nil => exact absurd h (fun z => z)
    | cons y M =>
      have := ih h.2
      unfold hasK at this ⊢
      rw [List.any_cons, List.any_cons, this, h.1.1]
theorem KR.at {C D : cL} : ∀ {L M : kL} (m : Nat) {x : Int × Int × Int}, KR C D L M → L[m]? = some x → ∃ y, M[m]? = some y ∧ KE C D x y := by
  intro L
  induction L with
  | nil => intro M m x h hx; simp at hx
  | cons x0 L ih => intro M m x h hx; cases M with
    | nil => exact absurd h (fun z => z)
    | cons y M =>
      cases m with
      | zero =>
        have : x0 = x := by simpa using hx
        subst this
        exact ⟨y, rfl, h.1⟩
      | succ m =>
        obtain ⟨y2, g1, g2⟩ := ih m h.2 (by simpa using hx)
        exact ⟨y2, by simpa using g1, g2⟩
theorem zNu_al {b : Int → Int} {lo hi : Int} {i : Nat} {D : cL} (h : hi ≤ 9999) : zNu b lo hi (0, i, D) = (fgS (tK b (tP b i)) (tN b (tP b i)) lo hi, if fgS (tK b (tP b i)) (tN b (tP b i)) lo hi = 0 then i + 1 else i, D) := by
  unfold zNu fgS
  by_cases k : tK b (tP b i) = 31
  · rw [if_pos (show kd b ((0, i, D) : zT) = 31 from k), if_pos k]
    by_cases q : lo ≤ tN b (tP b i) ∧ tN b (tP b i) ≤ hi
    · rw [if_pos (by show lo ≤ min 10000 (tN b (tP b i)) ∧ min 10000 (tN b (tP b i)) ≤ hi; omega), if_pos q]
      rfl
    · by_cases q2 : lo ≤ min 10000 (tN b (tP b i)) ∧ min 10000 (tN b (tP b i)) ≤ hi
      · exact absurd q2 (by omega)
      · rw [if_neg (by exact q2), if_neg q]
        rfl
  · rw [if_neg (show ¬ kd b ((0, i, D) : zT) = 31 from k), if_neg k]
    rfl
theorem fgS_z {k N lo hi : Int} (h : fgS k N lo hi = 0) : k = 31 ∧ lo ≤ N ∧ N ≤ hi := by
  unfold fgS at h
  by_cases q : k = 31
  · rw [if_pos q] at h
    by_cases q2 : lo ≤ N ∧ N ≤ hi
    · exact ⟨q, q2⟩
    · rw [if_neg q2] at h; exact absurd h (by decide)
  · rw [if_neg q] at h; exact absurd h (by decide)
/-- an order's numbers, the one reader's and the other's -/
theorem or_al {b : Int → Int} {k : Int} {i : Nat} {D : cL} (hk : 3 ≤ k ∧ k ≤ 10) : zOr b k (0, i, D) = ((orF b k i).1, (orF b k i).2.1, D) ∧ ((orF b k i).1 = 0 → (orF b k i).2.2.1 = tN b (tP b i) ∧ (orF b k i).2.2.2 = (if miK k = -1 then 0 else tN b (tP b (i + 1 + 1))) ∧ (0 ≤ tN b (tP b i) ∧ tN b (tP b i) ≤ 60) ∧ (miK k ≠ -1 → 0 ≤ tN b (tP b (i + 1 + 1)) ∧ tN b (tP b (i + 1 + 1)) ≤ 60) ∧ i < (orF b k i).2.1) := by
  obtain ⟨r1, r2, r3, -⟩ := or_rg k 0 (by decide)
  have h1 := zNu_al (b := b) (lo := loK k) (hi := hiK k) (i := i) (D := D) (by omega)
  unfold zOr orF
  by_cases f1 : fgS (tK b (tP b i)) (tN b (tP b i)) (loK k) (hiK k) = 0
  · rw [if_neg (not_not_intro f1)]
    rw [f1, if_pos rfl] at h1
    obtain ⟨g1, g2, g3⟩ := fgS_z f1
    by_cases cm : miK k = -1
    · rw [if_pos cm, if_pos cm, h1, if_pos cm]
      exact ⟨rfl, fun _ => ⟨rfl, rfl, by omega, fun q => absurd cm q, Nat.lt_succ_self i⟩⟩
    · rw [if_neg cm, if_neg cm, h1, if_neg cm]
      by_cases f2 : tK b (tP b (i + 1)) = miK k
      · rw [if_neg (not_not_intro f2), zEx_y f2]
        have h2k : h2K k (tN b (tP b i)) ≤ 60 := by
          unfold h2K
          repeat' split
          all_goals omega
        have h2 := zNu_al (b := b) (lo := 0) (hi := h2K k (tN b (tP b i))) (i := i + 1 + 1) (D := D) (by omega)
        show zNu b 0 (h2K k (tN b (tP b i))) (0, i + 1 + 1, D) = _ ∧ _
        rw [h2]
        by_cases f3 : fgS (tK b (tP b (i + 1 + 1))) (tN b (tP b (i + 1 + 1))) 0 (h2K k (tN b (tP b i))) = 0
        · obtain ⟨g4, g5, g6⟩ := fgS_z f3
          rw [if_neg (not_not_intro f3), f3, if_pos rfl]
          exact ⟨rfl, fun _ => ⟨rfl, rfl, by omega, fun _ => by omega, by show i < i + 1 + 1 + 1; omega⟩⟩
        · rw [if_pos f3, if_neg f3]
          exact ⟨rfl, fun q => absurd q f3⟩
      · rw [if_pos f2, zEx_f f2]
        rw [zNu_n (by decide : (1 : Int) ≠ 0)]
        exact ⟨rfl, fun q => absurd q (by decide : ¬ (1 : Int) = 0)⟩
  · rw [if_pos f1]
    rw [if_neg f1] at h1
    have z1 : ((fgS (tK b (tP b i)) (tN b (tP b i)) (loK k) (hiK k), i, D) : zT).1 ≠ 0 := f1
    rw [h1]
    refine ⟨?_, fun q => absurd q f1⟩
    split
    · rfl
    · rw [zEx_n z1, zNu_n z1]
theorem or_n {b : Int → Int} {N : Nat} (hb : tK b (tP b N) = 45) {k : Int} {i : Nat} (hi : i ≤ N) (hk : 3 ≤ k ∧ k ≤ 10) : (orF b k i).2.1 ≤ N := by
  obtain ⟨r1, r2, r3, -⟩ := or_rg k 0 (by decide)
  unfold orF
  by_cases f1 : fgS (tK b (tP b i)) (tN b (tP b i)) (loK k) (hiK k) = 0
  · rw [if_neg (not_not_intro f1)]
    have g1 := kd_lt hb hi (by rw [(fgS_z f1).1]; decide)
    by_cases cm : miK k = -1
    · rw [if_pos cm]; show i + 1 ≤ N; omega
    · rw [if_neg cm]
      by_cases f2 : tK b (tP b (i + 1)) = miK k
      · rw [if_neg (not_not_intro f2)]
        have g2 := kd_lt (j := i + 1) hb (by omega) (by omega)
        by_cases f3 : fgS (tK b (tP b (i + 1 + 1))) (tN b (tP b (i + 1 + 1))) 0 (h2K k (tN b (tP b i))) = 0
        · rw [if_neg (not_not_intro f3)]
          have g3 := kd_lt (j := i + 1 + 1) hb (by omega) (by rw [(fgS_z f3).1]; decide)
          show i + 1 + 1 + 1 ≤ N; omega
        · rw [if_pos f3]; show i + 1 + 1 ≤ N; omega
      · rw [if_pos f2]; show i + 1 ≤ N; omega
  · rw [if_pos f1]; exact hi
/-- a clause, as the class reads it -/
noncomputable def clC (b : Int → Int) (z : zT) (L : kL) : zT × kL :=
  pif (¬ (0 ≤ kd b z ∧ kd b z ≤ 10)) (zRef 1 z, L) (pif (kd b z ≤ 2 ∧ hasK L (kd b z) = true) (zRef 4 z, L) (pif (24 ≤ L.length) (zRef 6 z, L) (pif (kd b z ≤ 2) (zEx b 44 ((lvF b (kd b z) 9).1 (0, z.2.1 + 1, z.2.2)), L ++ [(kd b z, (z.2.2.length : Int), (((lvF b (kd b z) 9).1 (0, z.2.1 + 1, z.2.2)).2.2.length : Int))]) (zEx b 44 (zOr b (kd b z) (0, z.2.1 + 1, z.2.2)), L ++ [(kd b z, tN b (tP b (z.2.1 + 1)), if miK (kd b z) = -1 then 0 else tN b (tP b (z.2.1 + 1 + 1 + 1)))]))))
theorem cl_al {b : Int → Int} {N : Nat} (hb : tK b (tP b N) = 45) (hN : N ≤ 300) (hT : ∀ p : Int, 0 ≤ tN b p) {i : Nat} {C D : cL} {L M : kL} (hi : i ≤ N) (hC : C.length ≤ i) (hD : D.length ≤ i) (K : KR C D L M) (h24 : L.length ≤ 24) : ∃ s : Int × Nat × kL × cL, clF b i L C = some s ∧ s.1 = (clC b (0, i, D) M).1.1 ∧ s.2.1 = (clC b (0, i, D) M).1.2.1 ∧ s.2.1 ≤ N ∧ (s.1 = 0 → KR s.2.2.2 (clC b (0, i, D) M).1.2.2 s.2.2.1 (clC b (0, i, D) M).2 ∧ s.2.2.2.length ≤ s.2.1 ∧ (clC b (0, i, D) M).1.2.2.length ≤ s.2.1 ∧ s.2.2.1.length = L.length + 1 ∧ s.2.2.1.length ≤ 24) := by
  have kk : kd b ((0, i, D) : zT) = tK b (tP b i) := rfl
  unfold clF clC
  rw [kk, ← K.has, ← K.len]
  by_cases c1 : ¬ (0 ≤ tK b (tP b i) ∧ tK b (tP b i) ≤ 10)
  · rw [pif_t c1, pif_t c1]
    exact ⟨_, rfl, rfl, rfl, hi, fun q => absurd q (by decide : ¬ (1 : Int) = 0)⟩
  rw [pif_f c1, pif_f c1]
  have c1 := Classical.not_not.mp c1
  by_cases c2 : tK b (tP b i) ≤ 2 ∧ hasK L (tK b (tP b i)) = true
  · rw [pif_t c2, pif_t c2]
    exact ⟨_, rfl, rfl, rfl, hi, fun q => absurd q (by decide : ¬ (4 : Int) = 0)⟩
  rw [pif_f c2, pif_f c2]
  by_cases c3 : L.length = 24
  · rw [pif_t c3, pif_t (show 24 ≤ L.length by omega)]
    exact ⟨_, rfl, rfl, rfl, hi, fun q => absurd q (by decide : ¬ (6 : Int) = 0)⟩
  rw [pif_f c3, pif_f (show ¬ 24 ≤ L.length by omega)]
  have hiN := kd_lt hb hi (show tK b (tP b i) ≠ 45 by omega)
  by_cases c4 : tK b (tP b i) ≤ 2
  · rw [pif_t c4, pif_t c4]
    obtain ⟨C9, e1, e2, e3⟩ := sm_lv (lw := tK b (tP b i)) (w0 := (C.length : Int)) (i := i + 1) (D := D) hb hN hT ⟨c1.1, c4⟩ (by omega) (by omega)
    have hok := (lv_ok b (tK b (tP b i)) 9).1.1.2 (0, i + 1, D) rfl
    show ∃ s : Int × Nat × kL × cL, Option.map _ (smR b (tK b (tP b i)) C.length 700 (i + 1) [] 0 0 []) = some s ∧ _
    rw [e1]
    show ∃ s : Int × Nat × kL × cL, some _ = some s ∧ s.1 = (zEx b 44 ((lvF b (tK b (tP b i)) 9).1 (0, i + 1, D))).1 ∧ s.2.1 = (zEx b 44 ((lvF b (tK b (tP b i)) 9).1 (0, i + 1, D))).2.1 ∧ s.2.1 ≤ N ∧ (s.1 = 0 → KR s.2.2.2 (zEx b 44 ((lvF b (tK b (tP b i)) 9).1 (0, i + 1, D))).2.2 s.2.2.1 (M ++ [(tK b (tP b i), (D.length : Int), (((lvF b (tK b (tP b i)) 9).1 (0, i + 1, D)).2.2.length : Int))]) ∧ s.2.2.2.length ≤ s.2.1 ∧ (zEx b 44 ((lvF b (tK b (tP b i)) 9).1 (0, i + 1, D))).2.2.length ≤ s.2.1 ∧ s.2.2.1.length = L.length + 1 ∧ s.2.2.1.length ≤ 24)
    generalize (lvF b (tK b (tP b i)) 9).1 (0, i + 1, D) = r at *
    refine ⟨_, rfl, ?_⟩
    dsimp only
    by_cases f : r.1 = 0
    · rw [pif_f (not_not_intro f)]
      obtain ⟨k1, k2, D1, k3, k4⟩ := e3 f
      have hok2 := hok f
      simp only at hok2
      have er : r = (0, r.2.1, D ++ D1) := by rw [← k3, ← f]
      by_cases c44 : tK b (tP b r.2.1) = 44
      · rw [pif_f (not_not_intro c44)]
        have hj := kd_lt hb e2 (show tK b (tP b r.2.1) ≠ 45 by omega)
        have ee : zEx b 44 r = ((0, r.2.1 + 1, D ++ D1) : zT) := by
          conv => lhs; rw [er]
          exact zEx_y c44
        rw [ee, k3]
        have lC : (C ++ C9).length = C.length + C9.length := List.length_append
        have lD : (D ++ D1).length = D.length + D1.length := List.length_append
        have lL : (L ++ [(tK b (tP b i), (C.length : Int), (C.length : Int) + C9.length)]).length = L.length + 1 := by rw [List.length_append, List.length_singleton]
        rw [k3] at hok2
        refine ⟨rfl, rfl, by show r.2.1 + 1 ≤ N; omega, fun _ => ⟨?_, by show (C ++ C9).length ≤ r.2.1 + 1; omega, by show (D ++ D1).length ≤ r.2.1 + 1; omega, lL, by rw [lL]; omega⟩⟩
        refine KR.snoc (x := (tK b (tP b i), (C.length : Int), (C.length : Int) + C9.length)) (y := (tK b (tP b i), (D.length : Int), ((D ++ D1).length : Int))) ⟨rfl, fun q => absurd c4 (by show ¬ tK b (tP b i) ≤ 2; have : 3 ≤ tK b (tP b i) := q; omega), fun _ => ?_⟩ (K.app C9 D1)
        exact ⟨C, C9, [], D, D1, [], by rw [List.append_nil], rfl, rfl, by rw [List.append_nil], rfl, by show ((D ++ D1).length : Int) = _; omega, k4⟩
      · rw [pif_t c44]
        have ee : zEx b 44 r = ((1, r.2.1, D ++ D1) : zT) := by
          conv => lhs; rw [er]
          exact zEx_f c44
        rw [ee]
        exact ⟨rfl, rfl, e2, fun q => absurd q (by decide : ¬ (1 : Int) = 0)⟩
    · rw [pif_t f, zEx_n f]
      exact ⟨rfl, rfl, e2, fun q => absurd q f⟩
  · rw [pif_f c4, pif_f c4]
    obtain ⟨e1, e2⟩ := or_al (b := b) (k := tK b (tP b i)) (i := i + 1) (D := D) (by omega)
    show ∃ s : Int × Nat × kL × cL, some _ = some s ∧ s.1 = (zEx b 44 (zOr b (tK b (tP b i)) (0, i + 1, D))).1 ∧ s.2.1 = (zEx b 44 (zOr b (tK b (tP b i)) (0, i + 1, D))).2.1 ∧ s.2.1 ≤ N ∧ (s.1 = 0 → KR s.2.2.2 (zEx b 44 (zOr b (tK b (tP b i)) (0, i + 1, D))).2.2 s.2.2.1 (M ++ [(tK b (tP b i), tN b (tP b (i + 1)), if miK (tK b (tP b i)) = -1 then 0 else tN b (tP b (i + 1 + 1 + 1)))]) ∧ s.2.2.2.length ≤ s.2.1 ∧ (zEx b 44 (zOr b (tK b (tP b i)) (0, i + 1, D))).2.2.length ≤ s.2.1 ∧ s.2.2.1.length = L.length + 1 ∧ s.2.2.1.length ≤ 24)
    have hjN := or_n hb (k := tK b (tP b i)) (i := i + 1) (by omega) (by omega)
    rw [e1]
    generalize orF b (tK b (tP b i)) (i + 1) = r at *
    refine ⟨_, rfl, ?_⟩
    by_cases f : r.1 = 0
    · rw [pif_f (not_not_intro f), f]
      obtain ⟨k1, k2, k3, k4, k5⟩ := e2 f
      by_cases c44 : tK b (tP b r.2.1) = 44
      · rw [pif_f (not_not_intro c44), zEx_y c44]
        have hj := kd_lt hb hjN (show tK b (tP b r.2.1) ≠ 45 by omega)
        have lL : (L ++ [(tK b (tP b i), r.2.2.1, r.2.2.2)]).length = L.length + 1 := by rw [List.length_append, List.length_singleton]
        refine ⟨rfl, rfl, by show r.2.1 + 1 ≤ N; omega, fun _ => ⟨?_, by show C.length ≤ r.2.1 + 1; omega, by show D.length ≤ r.2.1 + 1; omega, lL, by rw [lL]; omega⟩⟩
        rw [← k1, ← k2]
        exact KR.snoc ⟨rfl, fun _ => rfl, fun q => absurd q c4⟩ K
      · rw [pif_t c44, zEx_f c44]
        exact ⟨rfl, rfl, hjN, fun q => absurd q (by decide : ¬ (1 : Int) = 0)⟩
    · rw [pif_t f]
      have z1 : ((r.1, r.2.1, D) : zT).1 ≠ 0 := f
      rw [zEx_n z1]
      exact ⟨rfl, rfl, hjN, fun q => absurd q f⟩
