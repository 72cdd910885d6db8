-- ===== the two readers alike: single things, all the way down =====
theorem isO_l {x lw : Int} (hx : 0 ≤ x ∧ x ≤ 8) (hl : 0 ≤ lw ∧ lw ≤ 2) : (isO x lw ↔ x ≤ lastN lw) ∧ (stV 0).getD lw.toNat 0 = lastN lw := by
  have c : lw = 0 ∨ lw = 1 ∨ lw = 2 := by omega
  rcases c with rfl | rfl | rfl
  · refine ⟨⟨fun h => ?_, fun h => ?_⟩, by decide⟩
    · have e : lastN 0 = 6 := by decide
      omega
    · have e : lastN 0 = 6 := by decide
      omega
  · refine ⟨⟨fun h => ?_, fun h => ?_⟩, by decide⟩
    · have e : lastN 1 = 8 := by decide
      omega
    · have e : lastN 1 = 8 := by decide
      omega
  · refine ⟨⟨fun h => ?_, fun h => ?_⟩, by decide⟩
    · have e : lastN 2 = 2 := by decide
      omega
    · have e : lastN 2 = 2 := by decide
      omega
section GO
variable {b : Int → Int} {lw w0 : Int} {N : Nat} {n : Int}
/-- what opens: the reference's push -/
theorem mv_op {i : Nat} {P : List Int} {C : cL} {x : Int} (g : gd w0 P n C) (h1 : tK b (tP b i) ≠ 31) (h2 : nmK (tK b (tP b i)) = -1) (h3 : opK (tK b (tP b i)) P = x) (hx : 0 ≤ x) : (n = 8 → fl b lw w0 (i, P, n, 0, C) 3 i) ∧ (n ≠ 8 → mv b lw w0 (i, P, n, 0, C) (i + 1, x :: P, n + 1, 0, C)) := by
  have bg : bgS (tK b (tP b i)) (tN b (tP b i)) lw i P n C = opS x i P n 0 C := by
    unfold bgS
    rw [pif_f (fun z => h1 z.1), pif_f (fun z => by omega), pif_f (fun z => by omega), h3, pif_t hx]
  refine ⟨fun c8 => fl_0 g (P' := P) (n' := n) (wh' := 0) (C' := C) ?_ (by decide), fun c8 => mv_0 g ?_⟩
  · rw [bg]; unfold opS; rw [if_pos c8]
  · rw [bg]; unfold opS; rw [if_neg c8]
theorem zOp_8 {i : Nat} {D : cL} (h : n = 8) : zOp n (0, i, D) = ((3, i, D) : zT) := by
  unfold zOp
  rw [if_pos (by omega)]
  rfl
theorem zOp_7 {i : Nat} {D : cL} (h : n < 8) : zOp n (0, i, D) = ((0, i + 1, D) : zT) := by
  unfold zOp
  rw [if_neg (by omega)]
  rfl
theorem gOne_of (hb : tK b (tP b N) = 45) (hN : N ≤ 300) (hT : ∀ p : Int, 0 ≤ tN b p) (hlw : 0 ≤ lw ∧ lw ≤ 2) (hn : 0 ≤ n ∧ n ≤ 8) {S O Cc : zT → zT} (zS : ∀ z : zT, z.1 ≠ 0 → S z = z) (zO : ∀ z : zT, z.1 ≠ 0 → O z = z) (zC : ∀ z : zT, z.1 ≠ 0 → Cc z = z) (hS : n < 8 → gVal b lw w0 N (n + 1) 5 S) (hO : n < 8 → gOne b lw w0 N (n + 1) O) (hC : n < 8 → gCh b lw w0 N (n + 1) Cc) : gOne b lw w0 N n (zOne b n lw S O Cc) := by
  intro i D C P h1 h2 h3 h4
  have kk : kd b ((0, i, D) : zT) = tK b (tP b i) := rfl
  have gdi : gd w0 P n C := ⟨by omega, hn, by omega⟩
  have z3 : ((3, i, D) : zT).1 ≠ 0 := (by decide : (3 : Int) ≠ 0)
  have nr := nmK_r (tK b (tP b i))
  unfold zOne
  rw [if_pos rfl, kk]
  by_cases k31 : tK b (tP b i) = 31
  · rw [if_pos k31]
    have n31 : nmK (tK b (tP b i)) = -1 := by rw [k31]; decide
    have hiN := kd_lt hb h1 (show tK b (tP b i) ≠ 45 by omega)
    have hN0 := hT (tP b i)
    by_cases c : 9999 < tN b (tP b i)
    · have ez : zNu b 0 9999 (0, i, D) = ((2, i, D) : zT) := by
        unfold zNu
        rw [if_pos (show kd b ((0, i, D) : zT) = 31 from k31), if_neg (by show ¬ (0 ≤ min 10000 (tN b (tP b i)) ∧ min 10000 (tN b (tP b i)) ≤ 9999); omega)]
        rfl
      have z2 : ((2, i, D) : zT).1 ≠ 0 := (by decide : (2 : Int) ≠ 0)
      rw [ez, zAd_n z2]
      refine ⟨fun _ => ⟨h1, fl_0 gdi (P' := P) (n' := n) (wh' := 0) (C' := C) ?_ z2⟩, fun q => absurd q z2⟩
      unfold bgS
      rw [pif_t ⟨k31, c⟩]
    · have ez : zNu b 0 9999 (0, i, D) = ((0, i + 1, D) : zT) := by
        unfold zNu
        rw [if_pos (show kd b ((0, i, D) : zT) = 31 from k31), if_pos (by show 0 ≤ min 10000 (tN b (tP b i)) ∧ min 10000 (tN b (tP b i)) ≤ 9999; omega)]
        rfl
      have em : min 10000 (tN b (tP b ((0, i, D) : zT).2.1)) = tN b (tP b i) := by show min 10000 (tN b (tP b i)) = _; omega
      rw [ez, zAd_0 rfl, em]
      refine ⟨fun q => absurd rfl q, fun _ => ⟨i + 1, [(0, tN b (tP b i))], [(31, tN b (tP b i))], rfl, ⟨by omega, by omega⟩, by simp; omega, mv_0 gdi ?_, SV_num (by omega) (by omega)⟩⟩
      unfold bgS
      rw [pif_f (fun z => c z.2), pif_f (fun z => by omega), pif_t (Or.inl k31), pif_t k31]
  rw [if_neg k31]
  by_cases k42 : tK b (tP b i) = 42
  · rw [if_pos k42]
    have hiN := kd_lt hb h1 (show tK b (tP b i) ≠ 45 by omega)
    obtain ⟨o1, o2⟩ := mv_op (b := b) (lw := lw) (i := i) (x := 40) gdi k31 (by rw [k42]; decide) (by unfold opK; rw [if_pos k42]) (by decide)
    by_cases c8 : n = 8
    · rw [zOp_8 c8, zS _ z3, zEx_n z3]
      exact ⟨fun _ => ⟨h1, o1 c8⟩, fun q => absurd q z3⟩
    · rw [zOp_7 (by omega)]
      have m1 := o2 c8
      have lP2 : ((40 : Int) :: P).length = P.length + 1 := rfl
      obtain ⟨k1, k2⟩ := hS (by omega) (i + 1) D C (40 :: P) (by omega) (by omega) (by omega) (by decide : mRk 40 < 5) (fun _ => aah_n (by show (40 : Int) ≠ 41; decide))
      by_cases f : (S (0, i + 1, D)).1 = 0
      rotate_left
      · rw [zEx_n f]
        obtain ⟨k3, k4⟩ := k1 f
        exact ⟨fun _ => ⟨k3, m1.fl k4⟩, fun q => absurd q f⟩
      obtain ⟨j, V, C1, D1, g1, ⟨⟨b1, b2⟩, b3, b4, b5, b6, b7⟩, g3⟩ := k2 f
      rw [g1]
      have V1 : ∀ y ∈ V, 1 ≤ mRk y := fun y hy => by have := b4 y hy; omega
      obtain ⟨bt, on⟩ := bt_no (x := 40) (P := P) V1 g3 (by decide)
      obtain ⟨t1, t2⟩ := tk_open (x := 40) (P := P) V1 (by decide)
      have lC : (C ++ C1).length = C.length + C1.length := List.length_append
      have lV : (V ++ 40 :: P).length = V.length + P.length + 1 := by rw [List.length_append, lP2]; omega
      clear k1 k2
      have gdj : gd w0 (V ++ 40 :: P) (n + 1) (C ++ C1) := ⟨by omega, by omega, by omega⟩
      by_cases c43 : tK b (tP b j) = 43
      · rw [zEx_y c43]
        have hj := kd_lt hb b2 (show tK b (tP b j) ≠ 45 by omega)
        have c0 := cOs_56 (by omega) b4
        have m2 : mv b lw w0 (j, V ++ 40 :: P, n + 1, 1, C ++ C1) (j + 1, dr 7 P, n - cOs (tk 7 P), 1, C ++ C1 ++ eV2 V ++ eV2 (tk 7 P)) := by
          refine mv_1 gdj ?_
          have hp : ptK (tK b (tP b j)) (V ++ 40 :: P) = 0 := by
            unfold ptK
            rw [on, if_pos rfl, if_pos c43]
          unfold bhS
          rw [bt, if_neg (by decide), hp, if_neg (by decide), if_neg (by decide), on, if_neg (by decide), t1, t2, c0]
          show (1, j + 1, dr 7 P, n + 1 - 0 - 1 - cOs (tk 7 P), 1, C ++ C1 ++ eV2 V ++ eV2 (tk 7 P)) = _
          rw [show n + 1 - 0 - 1 - cOs (tk 7 P) = n - cOs (tk 7 P) by omega]
        have lE := eV2_len V
        refine ⟨fun q => absurd rfl q, fun _ => ⟨j + 1, C1 ++ eV2 V, D1, rfl, ⟨by omega, by omega⟩, ?_, ?_, b7.wk (by omega)⟩⟩
        · rw [List.length_append, lE]; omega
        · have := (m1.trans b6).trans m2
          simp only [List.append_assoc] at this ⊢
          exact this
      · rw [zEx_f c43]
        refine ⟨fun _ => ⟨b2, (m1.trans b6).fl (fl_pt (k := 0) gdj bt on (by decide) ?_)⟩, fun q => absurd q (by decide : ¬ (1 : Int) = 0)⟩
        unfold ptK
        rw [on, if_pos rfl, if_neg c43]
  rw [if_neg k42]
  by_cases kp : tK b (tP b i) = 39 ∨ tK b (tP b i) = 14 ∨ tK b (tP b i) = 15
  · rw [if_pos kp]
    have hiN := kd_lt hb h1 (show tK b (tP b i) ≠ 45 by omega)
    obtain ⟨p, q, hpq, hq, hop, hrk, hco, hnk⟩ : ∃ p q : Int, ((p = 5 ∧ q = 48) ∨ (p = 2 ∧ q = 14) ∨ (p = 3 ∧ q = 15)) ∧ (if tK b (tP b i) = 39 then 48 else tK b (tP b i)) = q ∧ opK (tK b (tP b i)) P = p ∧ mRk p = 7 ∧ cO p = 1 ∧ nmK (tK b (tP b i)) = -1 := by
      rcases kp with e | e | e
      · exact ⟨5, 48, Or.inl ⟨rfl, rfl⟩, by rw [if_pos e], by unfold opK; rw [if_neg k42, if_pos e], by decide, by decide, by rw [e]; decide⟩
      · exact ⟨2, 14, Or.inr (Or.inl ⟨rfl, rfl⟩), by rw [e]; decide, by unfold opK; rw [e]; simp, by decide, by decide, by rw [e]; decide⟩
      · exact ⟨3, 15, Or.inr (Or.inr ⟨rfl, rfl⟩), by rw [e]; decide, by unfold opK; rw [e]; simp, by decide, by decide, by rw [e]; decide⟩
    rw [hq]
    obtain ⟨o1, o2⟩ := mv_op (b := b) (lw := lw) (i := i) (x := p) gdi k31 hnk hop (by omega)
    by_cases c8 : n = 8
    · rw [zOp_8 c8, zO _ z3, zAd_n z3]
      exact ⟨fun _ => ⟨h1, o1 c8⟩, fun q => absurd q z3⟩
    · rw [zOp_7 (by omega)]
      have m1 := o2 c8
      have lP2 : (p :: P).length = P.length + 1 := rfl
      obtain ⟨k1, k2⟩ := hO (by omega) (i + 1) D C (p :: P) (by omega) (by omega) (by omega) (fun _ => aah_f (by omega) (by omega))
      by_cases f : (O (0, i + 1, D)).1 = 0
      rotate_left
      · rw [zAd_n f]
        obtain ⟨k3, k4⟩ := k1 f
        exact ⟨fun _ => ⟨k3, m1.fl k4⟩, fun q => absurd q f⟩
      obtain ⟨j, C1, D1, g1, ⟨b1, b2⟩, b3, b6, b7⟩ := k2 f
      rw [g1, zAd_0 rfl]
      have etk : tk 7 (p :: P) = p :: tk 7 P := by rw [tk, if_pos (by omega)]
      have edr : dr 7 (p :: P) = dr 7 P := by rw [dr, if_pos (by omega)]
      rw [etk, edr, cOs_c, hco, show n + 1 - (1 + cOs (tk 7 P)) = n - cOs (tk 7 P) by omega] at b6
      refine ⟨fun q => absurd rfl q, fun _ => ⟨j, C1 ++ [(p, 0)], D1 ++ [(q, 0)], by simp [List.append_assoc], ⟨by omega, b2⟩, ?_, ?_, SV_1 (b7.wk (by omega)) hpq (by omega)⟩⟩
      · rw [List.length_append, List.length_singleton]; omega
      · have := m1.trans b6
        have e5 : eV2 (p :: tk 7 P) = (p, 0) :: eV2 (tk 7 P) := rfl
        rw [e5] at this
        simp only [List.append_assoc, List.singleton_append] at this ⊢
        exact this
  rw [if_neg kp]
  by_cases k16 : tK b (tP b i) = 16
  · rw [if_pos k16]
    have hiN := kd_lt hb h1 (show tK b (tP b i) ≠ 45 by omega)
    obtain ⟨o1, o2⟩ := mv_op (b := b) (lw := lw) (i := i) (x := 41) gdi k31 (by rw [k16]; decide) (by unfold opK; rw [k16]; simp) (by decide)
    by_cases c8 : n = 8
    · rw [zOp_8 c8, zC _ z3]
      exact ⟨fun _ => ⟨h1, o1 c8⟩, fun q => absurd q z3⟩
    · rw [zOp_7 (by omega)]
      have m1 := o2 c8
      obtain ⟨k1, k2⟩ := hC (by omega) (i + 1) D C P (by omega) (by omega) (by omega)
      refine ⟨fun f => ⟨(k1 f).1, m1.fl (k1 f).2⟩, fun f => ?_⟩
      obtain ⟨j, C1, D1, g1, ⟨b1, b2⟩, b3, b6, b7⟩ := k2 f
      rw [show n + 1 - 1 - cOs (tk 7 P) = n - cOs (tk 7 P) by omega] at b6
      exact ⟨j, C1, D1, g1, ⟨by omega, b2⟩, by omega, m1.trans b6, b7.wk (by omega)⟩
  rw [if_neg k16]
  unfold zName
  by_cases cn : nmK (tK b (tP b i)) = -1
  · rw [if_pos cn]
    have er : zRef 1 ((0, i, D) : zT) = (1, i, D) := rfl
    rw [er]
    refine ⟨fun _ => ⟨h1, fl_0 gdi (P' := P) (n' := n) (wh' := 0) (C' := C) ?_ (by decide : (1 : Int) ≠ 0)⟩, fun q => absurd q (by decide : ¬ (1 : Int) = 0)⟩
    have eo : opK (tK b (tP b i)) P = -1 := by
      unfold opK
      rw [if_neg k42, if_neg (by omega), if_neg (by omega), if_neg (by omega), if_neg k16, if_neg (fun z => by rw [h4 z.1] at z; exact absurd z.2 (by decide))]
    unfold bgS
    rw [pif_f (fun z => k31 z.1), pif_f (fun z => by omega), pif_f (fun z => by omega), eo, pif_f (by decide)]
  · rw [if_neg cn]
    have hx : 0 ≤ nmK (tK b (tP b i)) ∧ nmK (tK b (tP b i)) ≤ 8 := by omega
    obtain ⟨i1, i2⟩ := isO_l hx hlw
    rw [i2]
    by_cases cl : lastN lw < nmK (tK b (tP b i))
    · rw [if_pos cl]
      have er : zRef 5 ((0, i, D) : zT) = (5, i, D) := rfl
      rw [er]
      refine ⟨fun _ => ⟨h1, fl_0 gdi (P' := P) (n' := n) (wh' := 0) (C' := C) ?_ (by decide : (5 : Int) ≠ 0)⟩, fun q => absurd q (by decide : ¬ (5 : Int) = 0)⟩
      unfold bgS
      rw [pif_f (fun z => k31 z.1), pif_t ⟨hx.1, fun z => by have := i1.mp z; omega⟩]
    · rw [if_neg cl]
      have hiN := kd_lt hb h1 (fun e => by rw [e] at cn; exact absurd cn (by decide))
      rw [zAd_0 rfl, zNx_0 rfl]
      refine ⟨fun q => absurd rfl q, fun _ => ⟨i + 1, [(1, nmK (tK b (tP b i)))], [(47, nmK (tK b (tP b i)))], rfl, ⟨by omega, by omega⟩, by simp; omega, mv_0 gdi ?_, SV_nm (by omega) (by omega)⟩⟩
      unfold bgS
      rw [pif_f (fun z => k31 z.1), pif_f (fun z => z.2 (i1.mpr (by omega))), pif_t (Or.inr hx.1), pif_f k31]
/-- every level -/
theorem lv_al (hb : tK b (tP b N) = 45) (hN : N ≤ 300) (hT : ∀ p : Int, 0 ≤ tN b p) (hlw : 0 ≤ lw ∧ lw ≤ 2) (w0 : Int) : ∀ m : Nat, m ≤ 8 → gVal b lw w0 N (8 - (m : Int)) 5 (lvF b lw (m + 1)).1 ∧ gOne b lw w0 N (8 - (m : Int)) (lvF b lw (m + 1)).2.1 ∧ gCnd b lw w0 N (8 - (m : Int)) 3 (lvF b lw (m + 1)).2.2.1 ∧ gCh b lw w0 N (8 - (m : Int)) (lvF b lw (m + 1)).2.2.2 := by
  intro m
  induction m with
  | zero =>
    intro _
    obtain ⟨⟨o1, o2, o3, o4⟩, -⟩ := lv_ok b lw 0
    obtain ⟨⟨p1, p2, p3, p4⟩, -⟩ := lv_ok b lw 1
    have k1 := gOne_of (n := 8) (w0 := w0) hb hN hT hlw (by decide) o1.1 o2.1 o4.1 (fun q => absurd q (by decide)) (fun q => absurd q (by decide)) (fun q => absurd q (by decide))
    have k2 := gSum_of hb hN (by decide) p2 k1
    have k3 := gAsk_of hb hN (by decide) k2 o3.1 (fun q => absurd q (by decide))
    have k4 := gCh_of hb hN (by decide) (gEith_of hb hN (by decide) k3) p1.1 k2
    exact ⟨k2, k1, k3, k4⟩
  | succ m ih =>
    intro hm
    obtain ⟨i1, i2, i3, i4⟩ := ih (by omega)
    obtain ⟨⟨o1, o2, o3, o4⟩, -⟩ := lv_ok b lw (m + 1)
    obtain ⟨⟨p1, p2, p3, p4⟩, -⟩ := lv_ok b lw (m + 1 + 1)
    have e1 : 8 - (m : Int) = 8 - ((m + 1 : Nat) : Int) + 1 := by omega
    have e2 : (9 : Int) - ((m + 1 + 1 : Nat) : Int) = 8 - ((m + 1 : Nat) : Int) := by omega
    rw [e1] at i1 i2 i3 i4
    have k1 := gOne_of (n := 8 - ((m + 1 : Nat) : Int)) (w0 := w0) hb hN hT hlw (by omega) o1.1 o2.1 o4.1 (fun _ => i1) (fun _ => i2) (fun _ => i4)
    rw [← e2] at k1
    have k1' : gOne b lw w0 N (9 - ((m + 1 + 1 : Nat) : Int)) (lvF b lw (m + 1 + 1)).2.1 := k1
    have hn : 0 ≤ (9 : Int) - ((m + 1 + 1 : Nat) : Int) ∧ (9 : Int) - ((m + 1 + 1 : Nat) : Int) ≤ 8 := by omega
    have k2 : gVal b lw w0 N (9 - ((m + 1 + 1 : Nat) : Int)) 5 (lvF b lw (m + 1 + 1)).1 := gSum_of hb hN hn p2 k1'
    rw [← e2] at i3
    have k3 : gCnd b lw w0 N (9 - ((m + 1 + 1 : Nat) : Int)) 3 (lvF b lw (m + 1 + 1)).2.2.1 := gAsk_of hb hN hn k2 o3.1 (fun _ => i3)
    have k4 : gCh b lw w0 N (9 - ((m + 1 + 1 : Nat) : Int)) (lvF b lw (m + 1 + 1)).2.2.2 := gCh_of hb hN hn (gEith_of hb hN hn k3) p1.1 k2
    rw [e2] at k1' k2 k3 k4
    exact ⟨k2, k1', k3, k4⟩
/-- a law's sum: the two readers give up alike, or their codes say one thing -/
theorem sm_lv (hb : tK b (tP b N) = 45) (hN : N ≤ 300) (hT : ∀ p : Int, 0 ≤ tN b p) (hlw : 0 ≤ lw ∧ lw ≤ 2) {w0 : Int} {i : Nat} {D : cL} (hi : i ≤ N) (hw : w0 < i) : ∃ C9 : cL, smR b lw w0 700 i [] 0 0 [] = some (((lvF b lw 9).1 (0, i, D)).1, ((lvF b lw 9).1 (0, i, D)).2.1, C9) ∧ ((lvF b lw 9).1 (0, i, D)).2.1 ≤ N ∧ (((lvF b lw 9).1 (0, i, D)).1 = 0 → i < ((lvF b lw 9).1 (0, i, D)).2.1 ∧ C9.length + i ≤ ((lvF b lw 9).1 (0, i, D)).2.1 ∧ ∃ D1 : cL, ((lvF b lw 9).1 (0, i, D)).2.2 = D ++ D1 ∧ SV lw D.length C9 D1 3) := by
  have h := (lv_al hb hN hT hlw w0 8 (by decide)).1 i D [] [] hi (by decide) (by simpa using hw) trivial (fun _ => rfl)
  rw [show (8 : Int) - ((8 : Nat) : Int) = 0 by decide] at h
  have h' : rVal b lw w0 N 0 5 i [] [] D ((lvF b lw 9).1 (0, i, D)) := h
  generalize (lvF b lw 9).1 (0, i, D) = r at h'
  obtain ⟨k1, k2⟩ := h'
  by_cases f : r.1 = 0
  · obtain ⟨j, V, C1, D1, g1, ⟨⟨b1, b2⟩, b3, b4, b5, b6, b7⟩, g3⟩ := k2 f
    rw [g1]
    have V1 : ∀ y ∈ V, 1 ≤ mRk y := fun y hy => by have := b4 y hy; omega
    have ho : onw (V ++ []) = -1 := by rw [onw_app V1]; rfl
    have lV : (V ++ []).length = V.length := by rw [List.append_nil]
    have lC : ([] ++ C1).length = C1.length := rfl
    have t1 := (tk_app (L := 1) (V := V) (B := []) V1 trivial).1
    have hbh : (bhS (tK b (tP b j)) j (V ++ []) 0 ([] ++ C1)).1 = 0 := by
      unfold bhS
      have hbt : btK (tK b (tP b j)) (V ++ []) = -1 := by
        unfold btK
        rw [if_neg (by omega), if_neg (by omega), if_neg (by omega), if_neg (by omega), ho, if_pos (by decide)]
      have hpt : ptK (tK b (tP b j)) (V ++ []) = -1 := by
        unfold ptK
        rw [ho]
        rfl
      rw [hbt, if_neg (by decide), hpt, if_pos (by decide)]
    refine ⟨C1 ++ eV2 V, ?_, b2, fun _ => ⟨b1, ?_, D1, rfl, b7.wk (by decide)⟩⟩
    · have e2 := b6.2 (700 - (j - i))
      have e3 : 700 - (j - i) + (j - i) = 700 := by omega
      have e4 : 700 - (j - i) = 699 - (j - i) + 1 := by omega
      have e5 := en_1 (b := b) (s := lw) (w0 := w0) (e := 699 - (j - i)) (i := j) (P := V ++ []) (n := 0) (C := [] ++ C1) ⟨by omega, by decide, by omega⟩ hbh (by rw [ho]; decide)
      simp only at e2
      rw [e3, e4, e5, t1] at e2
      exact e2
    · rw [List.length_append, eV2_len]; omega
  · obtain ⟨k3, k4, C9, k5⟩ := k1 f
    have k4' : i ≤ r.2.1 := k4
    refine ⟨C9, ?_, k3, fun q => absurd q f⟩
    have e2 := k5 (699 - (r.2.1 - i))
    simp only at e2
    rw [show 699 - (r.2.1 - i) + (r.2.1 - i) + 1 = 700 by omega] at e2
    exact e2
end GO
