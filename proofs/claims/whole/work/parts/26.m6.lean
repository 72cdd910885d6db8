-- ===== the reference: the laws' numbers =====
/-- the reference's rows that are written anew ahead of each use: any of them -/
def mS (h : ph) (o : Nat) (g : Nat → Int → Int) (v : Int → Int) : ph := (h.1, h.2.1, fun q => if q = o + 6 ∨ q = o + 8 then g q else h.2.2.1 q, u2 h.2.2.2.1 (o + 7) v, h.2.2.2.2)
theorem mS_n (h : ph) (o : Nat) (g : Nat → Int → Int) (v : Int → Int) {q : Nat} (hq : ¬ (q = o + 6 ∨ q = o + 8)) : hI (mS h o g v) q = hI h q := if_neg hq
theorem mS_s (h : ph) (o : Nat) (g : Nat → Int → Int) (v : Int → Int) {q : Nat} (hq : q = o + 6 ∨ q = o + 8) : hI (mS h o g v) q = g q := if_pos hq
theorem mS_J (h : ph) (o : Nat) (g : Nat → Int → Int) (v : Int → Int) : hJ (mS h o g v) (o + 7) = v := u2_s _ _ _
theorem mS_Jn (h : ph) (o : Nat) (g : Nat → Int → Int) (v : Int → Int) {q : Nat} (hq : q ≠ o + 7) : hJ (mS h o g v) q = hJ h q := u2_n _ _ hq
theorem mS_self (h : ph) (o : Nat) : mS h o (hI h) (hJ h (o + 7)) = h := by
  obtain ⟨a, b, c, d, e⟩ := h
  have e1 : (fun q => if q = o + 6 ∨ q = o + 8 then c q else c q) = c := by funext q; split <;> rfl
  have e2 : u2 d (o + 7) (d (o + 7)) = d := by
    funext j
    by_cases hj : j = o + 7
    · subst hj; exact u2_s _ _ _
    · exact u2_n _ _ hj
  show (a, b, (fun q => if q = o + 6 ∨ q = o + 8 then c q else c q), u2 d (o + 7) (d (o + 7)), e) = _
  rw [e1, e2]
theorem mS_mS (h : ph) (o : Nat) (g g' : Nat → Int → Int) (v v' : Int → Int) : mS (mS h o g v) o g' v' = mS h o g' v' := by
  unfold mS
  have e1 : (fun q => if q = o + 6 ∨ q = o + 8 then g' q else (fun q => if q = o + 6 ∨ q = o + 8 then g q else h.2.2.1 q) q) = (fun q => if q = o + 6 ∨ q = o + 8 then g' q else h.2.2.1 q) := by
    funext q
    by_cases hq : q = o + 6 ∨ q = o + 8 <;> simp [hq]
  simp only [e1, u2_u2]
theorem mS_sI (h : ph) (o : Nat) (g : Nat → Int → Int) (v : Int → Int) {q : Nat} (i x : Int) (hq : q = o + 6 ∨ q = o + 8) : sI (mS h o g v) q i x = mS h o (u2 g q (u1 (g q) i x)) v := by
  have e : hI (mS h o g v) q = g q := mS_s h o g v hq
  have e1 : u2 (mS h o g v).2.2.1 q (u1 (g q) i x) = (mS h o (u2 g q (u1 (g q) i x)) v).2.2.1 := by
    funext j
    show (if j = q then _ else _) = (if _ then _ else _)
    by_cases hj : j = q
    · subst hj
      rw [if_pos rfl, if_pos hq, u2_s]
    · rw [if_neg hj]
      show (if _ then _ else _) = _
      by_cases h2 : j = o + 6 ∨ j = o + 8
      · rw [if_pos h2, if_pos h2, u2_n _ _ hj]
      · rw [if_neg h2, if_neg h2]
  unfold sI sA
  rw [e, e1]
  rfl
theorem mS_sIn (h : ph) (o : Nat) (g : Nat → Int → Int) (v : Int → Int) {q : Nat} (i x : Int) (hq : ¬ (q = o + 6 ∨ q = o + 8)) : sI (mS h o g v) q i x = mS (sI h q i x) o g v := by
  have e : hI (mS h o g v) q = hI h q := mS_n h o g v hq
  have e1 : u2 (mS h o g v).2.2.1 q (u1 (hI h q) i x) = (mS (sI h q i x) o g v).2.2.1 := by
    funext j
    show (if j = q then _ else _) = (if _ then _ else (if j = q then _ else _))
    by_cases hj : j = q
    · subst hj
      rw [if_pos rfl, if_neg hq, if_pos rfl]
    · rw [if_neg hj, if_neg hj]
      rfl
  unfold sI sA
  rw [e, e1]
  rfl
theorem mS_sL (h : ph) (o : Nat) (g : Nat → Int → Int) (v : Int → Int) (i x : Int) : sL (mS h o g v) (o + 7) i x = mS h o g (u1 v i x) := by
  have e : hJ (mS h o g v) (o + 7) = v := u2_s _ _ _
  unfold sL sLA
  rw [e]
  show (_, _, _, u2 (u2 h.2.2.2.1 (o + 7) v) (o + 7) (u1 v i x), _) = _
  rw [u2_u2]
  rfl
/-- an answer, the rows of use aside -/
def eS (z : Int) (h : ph) (o : Nat) : Option Value → ph → Prop := fun r h1 => r = some (vI z) ∧ ∃ (g : Nat → Int → Int) (v : Int → Int), h1 = mS h o g v
def eSL (z : Int) (h : ph) (o : Nat) : Option Value → ph → Prop := fun r h1 => r = some (vL z) ∧ ∃ (g : Nat → Int → Int) (v : Int → Int), h1 = mS h o g v
def eSV (h : ph) (o : Nat) : Option Value → ph → Prop := fun r h1 => r = none ∧ ∃ (g : Nat → Int → Int) (v : Int → Int), h1 = mS h o g v
section SCR
variable {G : gG} {l : Launch} {μ ν : MU} {d d' mc ms cb sb : Nat} {pc pc' : Nat} {ls : List (Option Value)} {st rest as : List Value} {h h0 : ph} {Q : Option Value → ph → Prop} {ci o oo : Nat} {z : Int}
theorem c_vS (hc : CalV μ pc pc' ν) (hM : Ev G l ν d' 0 0 (.ref o :: as) h (eS z h0 oo)) (hd : d' < d) (ho : Ob h o (mC ν)) (hst : st = as.reverse ++ .ref o :: rest) (hn : as.length = mN ν) (hcat : (rest.map fun v => v.category).sum ≤ 8) (k : ∀ (g : Nat → Int → Int) (v : Int → Int), Co G l μ d mc ms cb sb pc' ls (vI z :: rest) (mS h0 oo g v) Q) : Co G l μ d mc ms cb sb pc ls st h Q :=
  c_vQ hc hM hd ho hst hn hcat (fun r h1 e => by obtain ⟨rfl, g, v, rfl⟩ := e; exact k g v)
theorem c_vSL (hc : CalV μ pc pc' ν) (hM : Ev G l ν d' 0 0 (.ref o :: as) h (eSL z h0 oo)) (hd : d' < d) (ho : Ob h o (mC ν)) (hst : st = as.reverse ++ .ref o :: rest) (hn : as.length = mN ν) (hcat : (rest.map fun v => v.category).sum ≤ 8) (k : ∀ (g : Nat → Int → Int) (v : Int → Int), Co G l μ d mc ms cb sb pc' ls (vL z :: rest) (mS h0 oo g v) Q) : Co G l μ d mc ms cb sb pc ls st h Q :=
  c_vQ hc hM hd ho hst hn hcat (fun r h1 e => by obtain ⟨rfl, g, v, rfl⟩ := e; exact k g v)
theorem c_vSV (hc : CalV μ pc pc' ν) (hM : Ev G l ν d' 0 0 (.ref o :: as) h (eSV h0 oo)) (hd : d' < d) (ho : Ob h o (mC ν)) (hst : st = as.reverse ++ .ref o :: rest) (hn : as.length = mN ν) (hcat : (rest.map fun v => v.category).sum ≤ 8) (k : ∀ (g : Nat → Int → Int) (v : Int → Int), Co G l μ d mc ms cb sb pc' ls rest (mS h0 oo g v) Q) : Co G l μ d mc ms cb sb pc ls st h Q :=
  c_vQ hc hM hd ho hst hn hcat (fun r h1 e => by obtain ⟨rfl, g, v, rfl⟩ := e; exact k g v)
end SCR
def zclip (x : Int) : Int := if 1000000 < x then 1000000 else if x < -1000000 then -1000000 else x
def mTwo (k x y : Int) : Int := if k = 6 then zclip (x + y) else if k = 7 then zclip (x - y) else if k = 8 then zclip (x * y) else if y = 0 then 0 else zclip (x.tdiv y)
def mAskB (k x y : Int) : Bool := if k = 10 then decide (x < y) else if k = 11 then decide (x ≤ y) else if k = 12 then decide (y < x) else if k = 13 then decide (y ≤ x) else if k = 14 then decide (x = y) else decide (x ≠ y)
def mPre (a : Int → Int) (k x : Int) : Int := if k = 5 then -x else if k = 2 then (if 0 < x then 1 else if x < 0 then -1 else 0) else if 0 ≤ x ∧ x < a 0 then a (16 + 4 * x + 2) else 0
theorem mul_rng {x y : Int} (hx : -1000000 ≤ x ∧ x ≤ 1000000) (hy : -1000000 ≤ y ∧ y ≤ 1000000) : -1000000000000 ≤ x * y ∧ x * y ≤ 1000000000000 := by
  have h1 : x.natAbs ≤ 1000000 := by omega
  have h2 : y.natAbs ≤ 1000000 := by omega
  have h3 : (x * y).natAbs ≤ 1000000 * 1000000 := by rw [Int.natAbs_mul]; exact Nat.mul_le_mul h1 h2
  omega
theorem tdiv_rng {x y : Int} (hx : -1000000 ≤ x ∧ x ≤ 1000000) : -1000000 ≤ x.tdiv y ∧ x.tdiv y ≤ 1000000 := by
  have h1 : (x.tdiv y).natAbs ≤ x.natAbs := by rw [Int.natAbs_tdiv]; exact Nat.div_le_self _ _
  omega
set_option maxRecDepth 20000 in
theorem ev_X11_clip {G : gG} {l : Launch} {h : ph} {x : Int} (hx : -1000000000000 ≤ x ∧ x ≤ 1000000000000) : Ev G l mX11_clip 0 0 0 [vL x] h (eL (zclip x) h) := by
  refine ev_of (ls := [some (vL x), none]) (by decide +kernel) (Nat.le_of_ble_eq_true rfl) rfl ?_
  refine co_lload_n dX11_clip_0 rfl ?_
  refine r_ldcL dX11_clip_1 ?_
  refine co_lcmp dX11_clip_4 (by omega) (by omega) ?_
  unfold zcmp
  refine co_if_le (tgt := 14) dX11_clip_5 rfl (by omega) (fun c5 => ?_) (fun c5 => ?_)
  · refine co_lload_n dX11_clip_14 rfl ?_
    refine r_ldcL dX11_clip_15 ?_
    refine co_lcmp dX11_clip_18 (by omega) (by omega) ?_
    unfold zcmp
    refine co_if_ge (tgt := 28) dX11_clip_19 rfl (by omega) (fun c19 => ?_) (fun c19 => ?_)
    · refine co_lload_n dX11_clip_28 rfl ?_
      exact co_lreturn dX11_clip_29 rfl (eL_of (by unfold zclip; omega) rfl)
    · refine r_ldcL dX11_clip_22 ?_
      refine co_goto (tgt := 29) dX11_clip_25 rfl ?_
      exact co_lreturn dX11_clip_29 rfl (eL_of (by unfold zclip; omega) rfl)
  · refine r_ldcL dX11_clip_8 ?_
    refine co_goto (tgt := 29) dX11_clip_11 rfl ?_
    exact co_lreturn dX11_clip_29 rfl (eL_of (by unfold zclip; omega) rfl)
theorem co_ldivm {G : gG} {l : Launch} {μ : MU} {d mc ms cb sb pc pc' : Nat} {ls : List (Option Value)} {st : List Value} {h : ph} {Q : Option Value → ph → Prop} {x y : Int} (hd : Ins μ pc (.ldiv) 1 pc') (hx : -1000000000000 ≤ x ∧ x ≤ 1000000000000) (hy : -9223372036854775808 ≤ y ∧ y ≤ 9223372036854775807) (h0 : y ≠ 0) (k : Co G l μ d mc ms cb sb pc' ls (vL (x.tdiv y) :: st) h Q) : Co G l μ d mc ms cb sb pc ls (vL y :: vL x :: st) h Q := by
  obtain ⟨hd, rfl⟩ := hd
  intro p e s m args below meth c H locs cells slots lsR C hH hS hL hc hs
  refine lv_ldiv C.1 C.2.1 hd (iL_ne0 hy h0) ?_
  have hne : iL x ≠ Int64.minValue := fun e => by
    have := congrArg Int64.toInt e
    rw [iL_int (by omega)] at this
    have h2 : Int64.minValue.toInt = -9223372036854775808 := by decide
    omega
  have e9 : iL x / iL y = iL (x.tdiv y) := by
    rw [← iL_of (iL x / iL y), Int64.toInt_div_of_ne_left _ _ hne, iL_int (by omega), iL_int hy]
  rw [e9]
  exact k p e s m args below meth c H locs cells slots lsR C hH hS hL hc hs
set_option maxRecDepth 20000 in
theorem ev_X11_two {G : gG} {l : Launch} {h : ph} {k x y : Int} (hk : 0 ≤ k ∧ k ≤ 100) (hx : -1000000 ≤ x ∧ x ≤ 1000000) (hy : -1000000 ≤ y ∧ y ≤ 1000000) : Ev G l mX11_two 1 0 0 [vI k, vL x, vL y] h (eL (mTwo k x y) h) := by
  refine ev_of (ls := [some (vI k), some (vL x), none, some (vL y), none]) (by decide +kernel) (Nat.le_of_ble_eq_true rfl) rfl ?_
  have hm := mul_rng hx hy
  have hdv := tdiv_rng (y := y) hx
  refine co_iload_n dX11_two_0 rfl ?_
  refine r_tsw (tgtD := 49) (tgs := [28, 35, 42]) dX11_two_1 (by omega) (by decide) (by decide) (by decide) (fun hq => ?_) (fun j t ht hj => ?_)
  · refine co_lload_n dX11_two_49 rfl ?_
    refine co_lconst (z := 0) dX11_two_50 rfl ?_
    refine co_lcmp dX11_two_51 (by omega) (by omega) ?_
    unfold zcmp
    refine co_if_ne (tgt := 59) dX11_two_52 rfl (by omega) (fun c52 => ?_) (fun c52 => ?_)
    · refine co_lload_n dX11_two_59 rfl ?_
      refine co_lload_n dX11_two_60 rfl ?_
      refine co_ldivm dX11_two_61 (by omega) (by omega) (by omega) ?_
      refine c_sL dX11_two_62 (ev_X11_clip (by omega)) (by decide) rfl rfl (Nat.le_of_ble_eq_true rfl) ?_
      exact co_lreturn dX11_two_65 rfl (eL_of (by unfold mTwo; rw [if_neg (by omega), if_neg (by omega), if_neg (by omega)]; first | rw [if_pos (by omega)] | rw [if_neg (by omega)]) rfl)
    · refine co_lconst (z := 0) dX11_two_55 rfl ?_
      refine co_goto (tgt := 65) dX11_two_56 rfl ?_
      exact co_lreturn dX11_two_65 rfl (eL_of (by unfold mTwo; rw [if_neg (by omega), if_neg (by omega), if_neg (by omega)]; first | rw [if_pos (by omega)] | rw [if_neg (by omega)]) rfl)
  · rcases (show (j = 0 ∧ t = 28) ∨ (j = 1 ∧ t = 35) ∨ (j = 2 ∧ t = 42) by
      have hjl : j < 3 := (List.getElem?_eq_some_iff.mp ht).1
      rcases (show j = 0 ∨ j = 1 ∨ j = 2 by omega) with rfl | rfl | rfl <;> simp at ht <;> omega) with ⟨rfl, rfl⟩ | ⟨rfl, rfl⟩ | ⟨rfl, rfl⟩
    · refine co_lload_n dX11_two_28 rfl ?_
      refine co_lload_n dX11_two_29 rfl ?_
      refine co_ladd dX11_two_30 ?_
      refine c_sL dX11_two_31 (ev_X11_clip (by omega)) (by decide) rfl rfl (Nat.le_of_ble_eq_true rfl) ?_
      exact co_lreturn dX11_two_34 rfl (eL_of (by unfold mTwo; rw [if_pos (by omega)]) rfl)
    · refine co_lload_n dX11_two_35 rfl ?_
      refine co_lload_n dX11_two_36 rfl ?_
      refine co_lsub dX11_two_37 ?_
      refine c_sL dX11_two_38 (ev_X11_clip (by omega)) (by decide) rfl rfl (Nat.le_of_ble_eq_true rfl) ?_
      exact co_lreturn dX11_two_41 rfl (eL_of (by unfold mTwo; rw [if_neg (by omega)]; rw [if_pos (by omega)]) rfl)
    · refine co_lload_n dX11_two_42 rfl ?_
      refine co_lload_n dX11_two_43 rfl ?_
      refine co_lmul dX11_two_44 ?_
      refine c_sL dX11_two_45 (ev_X11_clip (by omega)) (by decide) rfl rfl (Nat.le_of_ble_eq_true rfl) ?_
      exact co_lreturn dX11_two_48 rfl (eL_of (by unfold mTwo; rw [if_neg (by omega)]; rw [if_neg (by omega)]; rw [if_pos (by omega)]) rfl)
theorem mAsk_iff (k x y : Int) : mAskB k x y = true ↔ (k = 10 ∧ x < y) ∨ (k = 11 ∧ x ≤ y) ∨ (k = 12 ∧ y < x) ∨ (k = 13 ∧ y ≤ x) ∨ (k = 14 ∧ x = y) ∨ (¬ (10 ≤ k ∧ k ≤ 14) ∧ x ≠ y) := by
  unfold mAskB
  repeat' split
  all_goals (simp only [decide_eq_true_eq]; omega)
theorem it_1 {b : Bool} (h : b = true) : (1 : Int) = if b = true then 1 else 0 := by rw [if_pos h]
theorem it_0 {b : Bool} (h : ¬ b = true) : (0 : Int) = if b = true then 1 else 0 := by rw [if_neg h]
set_option maxRecDepth 20000 in
theorem ev_X11_isAsked {G : gG} {l : Launch} {h : ph} {k x y : Int} (hk : 0 ≤ k ∧ k ≤ 100) (hx : -1000000 ≤ x ∧ x ≤ 1000000) (hy : -1000000 ≤ y ∧ y ≤ 1000000) : Ev G l mX11_isAsked 0 0 0 [vI k, vL x, vL y] h (eI (if mAskB k x y = true then 1 else 0) h) := by
  refine ev_of (ls := [some (vI k), some (vL x), none, some (vL y), none]) (by decide +kernel) (Nat.le_of_ble_eq_true rfl) rfl ?_
  refine co_iload_n dX11_isAsked_0 rfl ?_
  refine co_bipush (z := 10) dX11_isAsked_1 rfl ?_
  refine co_icmp_ne (tgt := 20) dX11_isAsked_3 rfl (by omega) (by omega) (fun c3 => ?_) (fun c3 => ?_)
  · refine co_iload_n dX11_isAsked_20 rfl ?_
    refine co_bipush (z := 11) dX11_isAsked_21 rfl ?_
    refine co_icmp_ne (tgt := 40) dX11_isAsked_23 rfl (by omega) (by omega) (fun c23 => ?_) (fun c23 => ?_)
    · refine co_iload_n dX11_isAsked_40 rfl ?_
      refine co_bipush (z := 12) dX11_isAsked_41 rfl ?_
      refine co_icmp_ne (tgt := 60) dX11_isAsked_43 rfl (by omega) (by omega) (fun c43 => ?_) (fun c43 => ?_)
      · refine co_iload_n dX11_isAsked_60 rfl ?_
        refine co_bipush (z := 13) dX11_isAsked_61 rfl ?_
        refine co_icmp_ne (tgt := 80) dX11_isAsked_63 rfl (by omega) (by omega) (fun c63 => ?_) (fun c63 => ?_)
        · refine co_iload_n dX11_isAsked_80 rfl ?_
          refine co_bipush (z := 14) dX11_isAsked_81 rfl ?_
          refine co_icmp_ne (tgt := 100) dX11_isAsked_83 rfl (by omega) (by omega) (fun c83 => ?_) (fun c83 => ?_)
          · refine co_lload_n dX11_isAsked_100 rfl ?_
            refine co_lload_n dX11_isAsked_101 rfl ?_
            refine co_lcmp dX11_isAsked_102 (by omega) (by omega) ?_
            unfold zcmp
            refine co_if_eq (tgt := 110) dX11_isAsked_103 rfl (by omega) (fun c103 => ?_) (fun c103 => ?_)
            · refine co_iconst dX11_isAsked_110 ?_
              exact co_zreturn dX11_isAsked_111 rfl (by omega) (eI_of (by first | exact it_1 ((mAsk_iff _ _ _).mpr (by omega)) | exact it_0 (fun q => by have := (mAsk_iff _ _ _).mp q; omega)) rfl)
            · refine co_iconst dX11_isAsked_106 ?_
              refine co_goto (tgt := 111) dX11_isAsked_107 rfl ?_
              exact co_zreturn dX11_isAsked_111 rfl (by omega) (eI_of (by first | exact it_1 ((mAsk_iff _ _ _).mpr (by omega)) | exact it_0 (fun q => by have := (mAsk_iff _ _ _).mp q; omega)) rfl)
          · refine co_lload_n dX11_isAsked_86 rfl ?_
            refine co_lload_n dX11_isAsked_87 rfl ?_
            refine co_lcmp dX11_isAsked_88 (by omega) (by omega) ?_
            unfold zcmp
            refine co_if_ne (tgt := 96) dX11_isAsked_89 rfl (by omega) (fun c89 => ?_) (fun c89 => ?_)
            · refine co_iconst dX11_isAsked_96 ?_
              refine co_goto (tgt := 111) dX11_isAsked_97 rfl ?_
              exact co_zreturn dX11_isAsked_111 rfl (by omega) (eI_of (by first | exact it_1 ((mAsk_iff _ _ _).mpr (by omega)) | exact it_0 (fun q => by have := (mAsk_iff _ _ _).mp q; omega)) rfl)
            · refine co_iconst dX11_isAsked_92 ?_
              refine co_goto (tgt := 111) dX11_isAsked_93 rfl ?_
              exact co_zreturn dX11_isAsked_111 rfl (by omega) (eI_of (by first | exact it_1 ((mAsk_iff _ _ _).mpr (by omega)) | exact it_0 (fun q => by have := (mAsk_iff _ _ _).mp q; omega)) rfl)
        · refine co_lload_n dX11_isAsked_66 rfl ?_
          refine co_lload_n dX11_isAsked_67 rfl ?_
          refine co_lcmp dX11_isAsked_68 (by omega) (by omega) ?_
          unfold zcmp
          refine co_if_lt (tgt := 76) dX11_isAsked_69 rfl (by omega) (fun c69 => ?_) (fun c69 => ?_)
          · refine co_iconst dX11_isAsked_76 ?_
            refine co_goto (tgt := 111) dX11_isAsked_77 rfl ?_
            exact co_zreturn dX11_isAsked_111 rfl (by omega) (eI_of (by first | exact it_1 ((mAsk_iff _ _ _).mpr (by omega)) | exact it_0 (fun q => by have := (mAsk_iff _ _ _).mp q; omega)) rfl)
          · refine co_iconst dX11_isAsked_72 ?_
            refine co_goto (tgt := 111) dX11_isAsked_73 rfl ?_
            exact co_zreturn dX11_isAsked_111 rfl (by omega) (eI_of (by first | exact it_1 ((mAsk_iff _ _ _).mpr (by omega)) | exact it_0 (fun q => by have := (mAsk_iff _ _ _).mp q; omega)) rfl)
      · refine co_lload_n dX11_isAsked_46 rfl ?_
        refine co_lload_n dX11_isAsked_47 rfl ?_
        refine co_lcmp dX11_isAsked_48 (by omega) (by omega) ?_
        unfold zcmp
        refine co_if_le (tgt := 56) dX11_isAsked_49 rfl (by omega) (fun c49 => ?_) (fun c49 => ?_)
        · refine co_iconst dX11_isAsked_56 ?_
          refine co_goto (tgt := 111) dX11_isAsked_57 rfl ?_
          exact co_zreturn dX11_isAsked_111 rfl (by omega) (eI_of (by first | exact it_1 ((mAsk_iff _ _ _).mpr (by omega)) | exact it_0 (fun q => by have := (mAsk_iff _ _ _).mp q; omega)) rfl)
        · refine co_iconst dX11_isAsked_52 ?_
          refine co_goto (tgt := 111) dX11_isAsked_53 rfl ?_
          exact co_zreturn dX11_isAsked_111 rfl (by omega) (eI_of (by first | exact it_1 ((mAsk_iff _ _ _).mpr (by omega)) | exact it_0 (fun q => by have := (mAsk_iff _ _ _).mp q; omega)) rfl)
    · refine co_lload_n dX11_isAsked_26 rfl ?_
      refine co_lload_n dX11_isAsked_27 rfl ?_
      refine co_lcmp dX11_isAsked_28 (by omega) (by omega) ?_
      unfold zcmp
      refine co_if_gt (tgt := 36) dX11_isAsked_29 rfl (by omega) (fun c29 => ?_) (fun c29 => ?_)
      · refine co_iconst dX11_isAsked_36 ?_
        refine co_goto (tgt := 111) dX11_isAsked_37 rfl ?_
        exact co_zreturn dX11_isAsked_111 rfl (by omega) (eI_of (by first | exact it_1 ((mAsk_iff _ _ _).mpr (by omega)) | exact it_0 (fun q => by have := (mAsk_iff _ _ _).mp q; omega)) rfl)
      · refine co_iconst dX11_isAsked_32 ?_
        refine co_goto (tgt := 111) dX11_isAsked_33 rfl ?_
        exact co_zreturn dX11_isAsked_111 rfl (by omega) (eI_of (by first | exact it_1 ((mAsk_iff _ _ _).mpr (by omega)) | exact it_0 (fun q => by have := (mAsk_iff _ _ _).mp q; omega)) rfl)
  · refine co_lload_n dX11_isAsked_6 rfl ?_
    refine co_lload_n dX11_isAsked_7 rfl ?_
    refine co_lcmp dX11_isAsked_8 (by omega) (by omega) ?_
    unfold zcmp
    refine co_if_ge (tgt := 16) dX11_isAsked_9 rfl (by omega) (fun c9 => ?_) (fun c9 => ?_)
    · refine co_iconst dX11_isAsked_16 ?_
      refine co_goto (tgt := 111) dX11_isAsked_17 rfl ?_
      exact co_zreturn dX11_isAsked_111 rfl (by omega) (eI_of (by first | exact it_1 ((mAsk_iff _ _ _).mpr (by omega)) | exact it_0 (fun q => by have := (mAsk_iff _ _ _).mp q; omega)) rfl)
    · refine co_iconst dX11_isAsked_12 ?_
      refine co_goto (tgt := 111) dX11_isAsked_13 rfl ?_
      exact co_zreturn dX11_isAsked_111 rfl (by omega) (eI_of (by first | exact it_1 ((mAsk_iff _ _ _).mpr (by omega)) | exact it_0 (fun q => by have := (mAsk_iff _ _ _).mp q; omega)) rfl)
set_option maxRecDepth 20000 in
theorem ev_X11_prefixed {G : gG} {l : Launch} {h : ph} {o : Nat} {k x : Int} (hM : isM h o) (hA : IA (hI h (o + 1))) (hk : 0 ≤ k ∧ k ≤ 100) (hx : -1000000 ≤ x ∧ x ≤ 1000000) : Ev G l mX11_prefixed 1 0 0 [.ref o, vI k, vL x] h (eL (mPre (hI h (o + 1)) k x) h) := by
  have h1 := hA.nh
  refine ev_of (ls := [some (.ref o), some (vI k), some (vL x), none]) (by decide +kernel) (Nat.le_of_ble_eq_true rfl) rfl ?_
  refine co_iload_n dX11_prefixed_0 rfl ?_
  refine co_iconst dX11_prefixed_1 ?_
  refine co_icmp_ne (tgt := 8) dX11_prefixed_2 rfl (by omega) (by omega) (fun c2 => ?_) (fun c2 => ?_)
  · refine co_iload_n dX11_prefixed_8 rfl ?_
    refine co_iconst dX11_prefixed_9 ?_
    refine co_icmp_ne (tgt := 37) dX11_prefixed_10 rfl (by omega) (by omega) (fun c10 => ?_) (fun c10 => ?_)
    · refine co_lload_n dX11_prefixed_37 rfl ?_
      refine co_lconst (z := 0) dX11_prefixed_38 rfl ?_
      refine co_lcmp dX11_prefixed_39 (by omega) (by omega) ?_
      unfold zcmp
      refine co_if_lt (tgt := 66) dX11_prefixed_40 rfl (by omega) (fun c40 => ?_) (fun c40 => ?_)
      · refine co_lconst (z := 0) dX11_prefixed_66 rfl ?_
        exact co_lreturn dX11_prefixed_67 rfl (eL_of (by unfold mPre; omega) rfl)
      · refine co_lload_n dX11_prefixed_43 rfl ?_
        refine co_aload_n dX11_prefixed_44 rfl ?_
        refine r_getR dX11_prefixed_45 hM.ob hM.r_a ?_
        refine co_iconst dX11_prefixed_48 ?_
        refine r_iald dX11_prefixed_49 hM.q_a (by omega) ?_
        refine co_i2l dX11_prefixed_50 (by omega) ?_
        refine co_lcmp dX11_prefixed_51 (by omega) (by omega) ?_
        unfold zcmp
        refine co_if_ge (tgt := 66) dX11_prefixed_52 rfl (by omega) (fun c52 => ?_) (fun c52 => ?_)
        · refine co_lconst (z := 0) dX11_prefixed_66 rfl ?_
          exact co_lreturn dX11_prefixed_67 rfl (eL_of (by unfold mPre; omega) rfl)
        · refine co_aload_n dX11_prefixed_55 rfl ?_
          refine co_lload_n dX11_prefixed_56 rfl ?_
          refine co_l2i dX11_prefixed_57 ?_
          refine co_iconst dX11_prefixed_58 ?_
          refine c_vI dX11_prefixed_59 (ev_X11_get hM (by omega)) (by decide) hM.ob rfl rfl (Nat.le_of_ble_eq_true rfl) ?_
          have hq9 := hA.h x (by omega)
          refine co_i2l dX11_prefixed_62 (by omega) ?_
          refine co_goto (tgt := 67) dX11_prefixed_63 rfl ?_
          exact co_lreturn dX11_prefixed_67 rfl (eL_of (by unfold mPre; omega) rfl)
    · refine co_lload_n dX11_prefixed_13 rfl ?_
      refine co_lconst (z := 0) dX11_prefixed_14 rfl ?_
      refine co_lcmp dX11_prefixed_15 (by omega) (by omega) ?_
      unfold zcmp
      refine co_if_le (tgt := 23) dX11_prefixed_16 rfl (by omega) (fun c16 => ?_) (fun c16 => ?_)
      · refine co_lload_n dX11_prefixed_23 rfl ?_
        refine co_lconst (z := 0) dX11_prefixed_24 rfl ?_
        refine co_lcmp dX11_prefixed_25 (by omega) (by omega) ?_
        unfold zcmp
        refine co_if_ge (tgt := 35) dX11_prefixed_26 rfl (by omega) (fun c26 => ?_) (fun c26 => ?_)
        · refine co_lconst (z := 0) dX11_prefixed_35 rfl ?_
          exact co_lreturn dX11_prefixed_36 rfl (eL_of (by unfold mPre; omega) rfl)
        · refine r_ldcL dX11_prefixed_29 ?_
          refine co_goto (tgt := 36) dX11_prefixed_32 rfl ?_
          exact co_lreturn dX11_prefixed_36 rfl (eL_of (by unfold mPre; omega) rfl)
      · refine co_lconst (z := 1) dX11_prefixed_19 rfl ?_
        refine co_goto (tgt := 36) dX11_prefixed_20 rfl ?_
        exact co_lreturn dX11_prefixed_36 rfl (eL_of (by unfold mPre; omega) rfl)
  · refine co_lload_n dX11_prefixed_5 rfl ?_
    refine co_lneg dX11_prefixed_6 ?_
    exact co_lreturn dX11_prefixed_7 rfl (eL_of (by unfold mPre; omega) rfl)
set_option maxRecDepth 20000 in
theorem ev_X11_joined {G : gG} {l : Launch} {h : ph} {k x y : Int} (hk : 0 ≤ k ∧ k ≤ 100) (hx : x = 0 ∨ x = 1) (hy : y = 0 ∨ y = 1) : Ev G l mX11_joined 0 0 0 [vI k, vI x, vI y] h (eI (if (k = 21 ∧ x = 1 ∧ y = 1) ∨ (k ≠ 21 ∧ (x = 1 ∨ y = 1)) then 1 else 0) h) := by
  refine ev_of (ls := [some (vI k), some (vI x), some (vI y)]) (by decide +kernel) (Nat.le_of_ble_eq_true rfl) rfl ?_
  refine co_iload_n dX11_joined_0 rfl ?_
  refine co_bipush (z := 21) dX11_joined_1 rfl ?_
  refine co_icmp_ne (tgt := 22) dX11_joined_3 rfl (by omega) (by omega) (fun c3 => ?_) (fun c3 => ?_)
  · refine co_iload_n dX11_joined_22 rfl ?_
    refine co_if_ne (tgt := 30) dX11_joined_23 rfl (by omega) (fun c23 => ?_) (fun c23 => ?_)
    · refine co_iconst dX11_joined_30 ?_
      refine co_goto (tgt := 35) dX11_joined_31 rfl ?_
      exact co_zreturn dX11_joined_35 rfl (by omega) (eI_of (by omega) rfl)
    · refine co_iload_n dX11_joined_26 rfl ?_
      refine co_if_eq (tgt := 34) dX11_joined_27 rfl (by omega) (fun c27 => ?_) (fun c27 => ?_)
      · refine co_iconst dX11_joined_34 ?_
        exact co_zreturn dX11_joined_35 rfl (by omega) (eI_of (by omega) rfl)
      · refine co_iconst dX11_joined_30 ?_
        refine co_goto (tgt := 35) dX11_joined_31 rfl ?_
        exact co_zreturn dX11_joined_35 rfl (by omega) (eI_of (by omega) rfl)
  · refine co_iload_n dX11_joined_6 rfl ?_
    refine co_if_eq (tgt := 18) dX11_joined_7 rfl (by omega) (fun c7 => ?_) (fun c7 => ?_)
    · refine co_iconst dX11_joined_18 ?_
      refine co_goto (tgt := 35) dX11_joined_19 rfl ?_
      exact co_zreturn dX11_joined_35 rfl (by omega) (eI_of (by omega) rfl)
    · refine co_iload_n dX11_joined_10 rfl ?_
      refine co_if_eq (tgt := 18) dX11_joined_11 rfl (by omega) (fun c11 => ?_) (fun c11 => ?_)
      · refine co_iconst dX11_joined_18 ?_
        refine co_goto (tgt := 35) dX11_joined_19 rfl ?_
        exact co_zreturn dX11_joined_35 rfl (by omega) (eI_of (by omega) rfl)
      · refine co_iconst dX11_joined_14 ?_
        refine co_goto (tgt := 35) dX11_joined_15 rfl ?_
        exact co_zreturn dX11_joined_35 rfl (by omega) (eI_of (by omega) rfl)
theorem cm_at {G : gG} {l : Launch} {h : ph} {x y p q p' q' : Int} {Q : Option Value → ph → Prop} (hp : p = p') (hq : q = q') (k : Co G l mX11_common 0 0 0 0 0 28 [some (vL x), none, some (vL y), none, some (vL p'), none, some (vL q'), none, none, none] [] h Q) : Co G l mX11_common 0 0 0 0 0 28 [some (vL x), none, some (vL y), none, some (vL p), none, some (vL q), none, none, none] [] h Q := by
  rw [hp, hq]; exact k
set_option maxRecDepth 20000 in
theorem ev_X11_common {G : gG} {l : Launch} {h : ph} {x y : Int} (hx : -9000000000000000000 ≤ x ∧ x ≤ 9000000000000000000) (hy : -9000000000000000000 ≤ y ∧ y ≤ 9000000000000000000) : Ev G l mX11_common 0 0 0 [vL x, vL y] h (eL ((Nat.gcd x.natAbs y.natAbs : Nat) : Int) h) := by
  refine ev_of (ls := [some (vL x), none, some (vL y), none, none, none, none, none, none, none]) (by decide +kernel) (Nat.le_of_ble_eq_true rfl) rfl ?_
  have loop : ∀ (f p q : Nat) (w : Option Value), q < f → p ≤ 9000000000000000000 ∧ q ≤ 9000000000000000000 → Co G l mX11_common 0 0 0 0 0 28 [some (vL x), none, some (vL y), none, some (vL (p : Int)), none, some (vL (q : Int)), none, w, none] [] h (eL ((Nat.gcd p q : Nat) : Int) h) := by
    intro f
    induction f with
    | zero => intro p q w h1; omega
    | succ f ih =>
      intro p q w hq hr
      by_cases hz : q = 0
      · subst hz
        refine co_lload dX11_common_28 rfl ?_
        refine co_lconst (z := 0) dX11_common_30 rfl ?_
        refine co_lcmp dX11_common_31 (by omega) (by omega) ?_
        unfold zcmp
        refine co_if_eq (tgt := 53) dX11_common_32 rfl (by omega) (fun c32 => ?_) (fun c32 => ?_)
        rotate_left
        · exact absurd c32 (by omega)
        refine co_lload dX11_common_53 rfl ?_
        exact co_lreturn dX11_common_55 rfl (eL_of (by simp) rfl)
      · have hlt : p % q < q := Nat.mod_lt _ (by omega)
        have e : Int.tmod (p : Int) (q : Int) = ((p % q : Nat) : Int) := rfl
        have e2 : Nat.gcd p q = Nat.gcd q (p % q) := by rw [Nat.gcd_comm, Nat.gcd_rec, Nat.gcd_comm]
        refine co_lload dX11_common_28 rfl ?_
        refine co_lconst (z := 0) dX11_common_30 rfl ?_
        refine co_lcmp dX11_common_31 (by omega) (by omega) ?_
        unfold zcmp
        refine co_if_eq (tgt := 53) dX11_common_32 rfl (by omega) (fun c32 => ?_) (fun c32 => ?_)
        · exact absurd c32 (by omega)
        refine co_lload dX11_common_35 rfl ?_
        refine co_lload dX11_common_37 rfl ?_
        refine co_lrem dX11_common_39 (by omega) (by omega) (by omega) (by omega) ?_
        refine s_lstore (ls' := [_, _, _, _, _, _, _, _, _, _]) dX11_common_40 (Nat.le_of_ble_eq_true rfl) rfl rfl ?_
        refine co_lload dX11_common_42 rfl ?_
        refine s_lstore (ls' := [_, _, _, _, _, _, _, _, _, _]) dX11_common_44 (Nat.le_of_ble_eq_true rfl) rfl rfl ?_
        refine co_lload dX11_common_46 rfl ?_
        refine s_lstore (ls' := [_, _, _, _, _, _, _, _, _, _]) dX11_common_48 (Nat.le_of_ble_eq_true rfl) rfl rfl ?_
        refine co_goto (tgt := 28) dX11_common_50 rfl ?_
        rw [e, e2]
        exact ih q (p % q) _ (by omega) (by omega)
  refine co_lload_n dX11_common_0 rfl ?_
  refine co_lconst (z := 0) dX11_common_1 rfl ?_
  refine co_lcmp dX11_common_2 (by omega) (by omega) ?_
  unfold zcmp
  refine co_if_ge (tgt := 11) dX11_common_3 rfl (by omega) (fun c3 => ?_) (fun c3 => ?_)
  · refine co_lload_n dX11_common_11 rfl ?_
    refine s_lstore (ls' := [_, _, _, _, _, _, _, _, _, _]) dX11_common_12 (Nat.le_of_ble_eq_true rfl) rfl rfl ?_
    refine co_lload_n dX11_common_14 rfl ?_
    refine co_lconst (z := 0) dX11_common_15 rfl ?_
    refine co_lcmp dX11_common_16 (by omega) (by omega) ?_
    unfold zcmp
    refine co_if_ge (tgt := 25) dX11_common_17 rfl (by omega) (fun c17 => ?_) (fun c17 => ?_)
    · refine co_lload_n dX11_common_25 rfl ?_
      refine s_lstore (ls' := [_, _, _, _, _, _, _, _, _, _]) dX11_common_26 (Nat.le_of_ble_eq_true rfl) rfl rfl ?_
      have e := loop (y.natAbs + 1) x.natAbs y.natAbs none (by omega) (by omega)
      refine cm_at ?_ ?_ e <;> omega
    · refine co_lload_n dX11_common_20 rfl ?_
      refine co_lneg dX11_common_21 ?_
      refine co_goto (tgt := 26) dX11_common_22 rfl ?_
      refine s_lstore (ls' := [_, _, _, _, _, _, _, _, _, _]) dX11_common_26 (Nat.le_of_ble_eq_true rfl) rfl rfl ?_
      have e := loop (y.natAbs + 1) x.natAbs y.natAbs none (by omega) (by omega)
      refine cm_at ?_ ?_ e <;> omega
  · refine co_lload_n dX11_common_6 rfl ?_
    refine co_lneg dX11_common_7 ?_
    refine co_goto (tgt := 12) dX11_common_8 rfl ?_
    refine s_lstore (ls' := [_, _, _, _, _, _, _, _, _, _]) dX11_common_12 (Nat.le_of_ble_eq_true rfl) rfl rfl ?_
    refine co_lload_n dX11_common_14 rfl ?_
    refine co_lconst (z := 0) dX11_common_15 rfl ?_
    refine co_lcmp dX11_common_16 (by omega) (by omega) ?_
    unfold zcmp
    refine co_if_ge (tgt := 25) dX11_common_17 rfl (by omega) (fun c17 => ?_) (fun c17 => ?_)
    · refine co_lload_n dX11_common_25 rfl ?_
      refine s_lstore (ls' := [_, _, _, _, _, _, _, _, _, _]) dX11_common_26 (Nat.le_of_ble_eq_true rfl) rfl rfl ?_
      have e := loop (y.natAbs + 1) x.natAbs y.natAbs none (by omega) (by omega)
      refine cm_at ?_ ?_ e <;> omega
    · refine co_lload_n dX11_common_20 rfl ?_
      refine co_lneg dX11_common_21 ?_
      refine co_goto (tgt := 26) dX11_common_22 rfl ?_
      refine s_lstore (ls' := [_, _, _, _, _, _, _, _, _, _]) dX11_common_26 (Nat.le_of_ble_eq_true rfl) rfl rfl ?_
      have e := loop (y.natAbs + 1) x.natAbs y.natAbs none (by omega) (by omega)
      refine cm_at ?_ ?_ e <;> omega
