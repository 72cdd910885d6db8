-- ===== the class: a law is asked =====
abbrev cT : Type := Int × Int × (Int → Int)
def isP (k : Int) : Prop := k = 48 ∨ k = 14 ∨ k = 15 ∨ k = 22
/-- what a step of the class's machine asks for -/
def okC (nm : Int → Int) (k v e : Int) (A t : Int) (S : Int → Int) : Prop := (0 ≤ A ∧ A < e ∧ A < 300) ∧ (0 ≤ t ∧ t ≤ 64) ∧ (0 ≤ k ∧ k ≤ 100) ∧ rg6 v ∧ ((k = 31 ∨ k = 47) → t < 64) ∧ (k = 47 → (0 ≤ v ∧ v < 9) ∧ rg6 (nm v)) ∧ ((k = 50 ∨ k = 49) → A < v ∧ v ≤ 300) ∧ ((k = 49 ∨ isP k) → 1 ≤ t ∧ rg6 (S (t - 1))) ∧ (¬ (k = 31 ∨ k = 47 ∨ k = 50 ∨ k = 49 ∨ isP k) → 2 ≤ t ∧ rg6 (S (t - 1)) ∧ rg6 (S (t - 1 - 1)))
def nxC (a nm : Int → Int) (k v : Int) (A t : Int) (S : Int → Int) : cT :=
  if k = 31 then (A + 1, t + 1, u1 S t v)
  else if k = 47 then (A + 1, t + 1, u1 S t (nm v))
  else if k = 50 then (v, t, S)
  else if k = 49 then (if S (t - 1) = 0 then v else A + 1, t - 1, S)
  else if k = 48 ∨ k = 14 ∨ k = 15 ∨ k = 22 then (A + 1, t, u1 S (t - 1) (cCh a k (S (t - 1))))
  else (A + 1, t - 1, u1 S (t - 1 - 1) (if 38 ≤ k then cRc k (S (t - 1 - 1)) (S (t - 1)) else if cSo k (S (t - 1 - 1)) (S (t - 1)) = true then 1 else 0))
def rchC (a nm ord opr : Int → Int) (e : Int) : Nat → cT → cT → Prop
  | 0, s, s' => s = s'
  | n + 1, s, s' => okC nm (ord s.1) (opr s.1) e s.1 s.2.1 s.2.2 ∧ rchC a nm ord opr e n (nxC a nm (ord s.1) (opr s.1) s.1 s.2.1 s.2.2) s'
theorem rchC_app {a nm ord opr : Int → Int} {e : Int} : ∀ (n m : Nat) (s s' s2 : cT), rchC a nm ord opr e n s s' → rchC a nm ord opr e m s' s2 → rchC a nm ord opr e (n + m) s s2 := by
  intro n
  induction n with
  | zero => intro m s s' s2 h1 h2; have : s = s' := h1; subst this; rw [Nat.zero_add]; exact h2
  | succ n ih =>
    intro m s s' s2 h1 h2
    rw [show n + 1 + m = (n + m) + 1 by omega]
    exact ⟨h1.1, ih m _ s' s2 h1.2 h2⟩
/-- a law of a script, as the class asks it: its value -/
def LawC (a nm ord opr : Int → Int) (s0 e E : Int) : Prop := (0 ≤ s0 ∧ s0 ≤ e ∧ e ≤ 300) ∧ rg6 E ∧ ∀ S : Int → Int, ∃ (n : Nat) (t : Int) (S' : Int → Int), rchC a nm ord opr e n (s0, 0, S) (e, t, S') ∧ S' 0 = E
theorem cRc_r {k x y : Int} (hx : -1000000 ≤ x ∧ x ≤ 1000000) : -1000000 ≤ cRc k x y ∧ cRc k x y ≤ 1000000 := by
  have h := tdiv_rng (x := x) (y := y) hx
  unfold cRc zclip
  repeat' split
  all_goals omega
theorem it_0i {b : Bool} (h : (if b = true then (1 : Int) else 0) = 0) : ¬ b = true := fun e => by rw [if_pos e] at h; exact absurd h (by decide)
theorem it_1i {b : Bool} (h : ¬ (if b = true then (1 : Int) else 0) = 0) : b = true := Classical.byContradiction (fun e => h (by rw [if_neg e]))
set_option maxRecDepth 20000 in
theorem ask_run {G : gG} {l : Launch} {h : ph} {q : Nat} {j s : Nat} {a : Int → Int} (hM : isT h q) (hT : TR (hI h (q + 1)) (hI h (q + 2)) (hI h (q + 3)) a) (hJ : isJ h j) (hs : isS h s) (hd1 : q + 3 < j ∨ j + 2 < q) (hd2 : s + 7 < j ∨ j + 2 < s) {e w : Int} (re : 0 ≤ e ∧ e ≤ 300) {s' : cT} {Q : Option Value → ph → Prop} (kk : ∀ w7 w8 w9 : Option Value, Co G l mX1_ask 3 0 0 0 0 19 [some (.ref j), some (.ref s), some (vI w), some (.ref q), some (vI s'.2.1), some (vI e), some (vI s'.1), w7, w8, w9] [] (sA h (j + 1) s'.2.2) Q) : ∀ (n : Nat) (A t : Int) (S : Int → Int) (w7 w8 w9 : Option Value), rchC a (hI h (j + 2)) (hI h (s + 1)) (hI h (s + 2)) e n (A, t, S) s' → Co G l mX1_ask 3 0 0 0 0 19 [some (.ref j), some (.ref s), some (vI w), some (.ref q), some (vI t), some (vI e), some (vI A), w7, w8, w9] [] (sA h (j + 1) S) Q := by
  intro n
  induction n with
  | zero =>
    intro A t S w7 w8 w9 hr
    have e1 : (A, t, S) = s' := hr
    subst e1
    exact kk w7 w8 w9
  | succ n ih =>
    intro A t S w7 w8 w9 hr
    obtain ⟨hok, hr⟩ := hr
    simp only at hok hr
    have hT2 : TR (hI (sA h (j + 1) S) (q + 1)) (hI (sA h (j + 1) S) (q + 2)) (hI (sA h (j + 1) S) (q + 3)) a := by
      rw [hI_sA_n _ _ (by omega), hI_sA_n _ _ (by omega), hI_sA_n _ _ (by omega)]; exact hT
    have ef : ∀ f : Int → Int, hI (sA h (j + 1) f) (s + 1) = hI h (s + 1) := fun f => hI_sA_n _ _ (by omega)
    have eg : ∀ f : Int → Int, hI (sA h (j + 1) f) (s + 2) = hI h (s + 2) := fun f => hI_sA_n _ _ (by omega)
    have en : ∀ f : Int → Int, hI (sA h (j + 1) f) (j + 2) = hI h (j + 2) := fun f => hI_sA_n _ _ (by omega)
    generalize hk : hI h (s + 1) A = k at hok hr
    generalize hv : hI h (s + 2) A = v at hok hr
    obtain ⟨g1, g2, g3, g4, g5, g6, g7, g8, g9⟩ := hok
    unfold isP at g8 g9
    unfold rg6 at g4 g6 g8 g9
    refine co_iload dX1_ask_19 rfl ?_
    refine co_if_lt (tgt := 318) dX1_ask_21 rfl (by first | omega | (split <;> omega)) (fun c21 => ?_) (fun c21 => ?_)
    · exact absurd c21 (by omega)
    refine co_iload dX1_ask_24 rfl ?_
    refine co_iload dX1_ask_26 rfl ?_
    refine co_icmp_ge (tgt := 318) dX1_ask_28 rfl (by first | omega | (split <;> omega)) (by first | omega | (split <;> omega)) (fun c28 => ?_) (fun c28 => ?_)
    · exact absurd c28 (by omega)
    refine co_iload dX1_ask_31 rfl ?_
    refine co_sipush (z := 300) dX1_ask_33 rfl ?_
    refine co_icmp_ge (tgt := 318) dX1_ask_36 rfl (by first | omega | (split <;> omega)) (by first | omega | (split <;> omega)) (fun c36 => ?_) (fun c36 => ?_)
    · exact absurd c36 (by omega)
    refine co_aload_n dX1_ask_39 rfl ?_
    refine r_getR dX1_ask_40 hs.ob hs.r_orders ?_
    refine co_iload dX1_ask_43 rfl ?_
    refine r_iald dX1_ask_45 hs.q_orders (by omega) ?_
    try simp only [ef, eg, hk, hv, hI_sA_s, en]
    refine s_istore (ls' := [_, _, _, _, _, _, _, _, _, _]) dX1_ask_46 (Nat.le_of_ble_eq_true rfl) rfl rfl ?_
    refine co_aload_n dX1_ask_48 rfl ?_
    refine r_getR dX1_ask_49 hs.ob hs.r_operands ?_
    refine co_iload dX1_ask_52 rfl ?_
    refine r_iald dX1_ask_54 hs.q_operands (by omega) ?_
    try simp only [ef, eg, hk, hv, hI_sA_s, en]
    refine s_istore (ls' := [_, _, _, _, _, _, _, _, _, _]) dX1_ask_55 (Nat.le_of_ble_eq_true rfl) rfl rfl ?_
    refine co_iload dX1_ask_57 rfl ?_
    refine co_bipush (z := 31) dX1_ask_59 rfl ?_
    refine co_icmp_eq (tgt := 71) dX1_ask_61 rfl (by first | omega | (split <;> omega)) (by first | omega | (split <;> omega)) (fun c61 => ?_) (fun c61 => ?_)
    · have o1 := g5 (by omega)
      refine co_iload dX1_ask_71 rfl ?_
      refine co_bipush (z := 64) dX1_ask_73 rfl ?_
      refine co_icmp_ge (tgt := 312) dX1_ask_75 rfl (by first | omega | (split <;> omega)) (by first | omega | (split <;> omega)) (fun c75 => ?_) (fun c75 => ?_)
      · exact absurd c75 (by omega)
      refine co_aload_n dX1_ask_78 rfl ?_
      refine r_getR dX1_ask_79 hJ.ob hJ.r_stack ?_
      refine co_iload dX1_ask_82 rfl ?_
      refine co_iload dX1_ask_84 rfl ?_
      refine co_bipush (z := 31) dX1_ask_86 rfl ?_
      refine co_icmp_ne (tgt := 96) dX1_ask_88 rfl (by first | omega | (split <;> omega)) (by first | omega | (split <;> omega)) (fun c88 => ?_) (fun c88 => ?_)
      · have o2 := g6 (by omega)
        refine co_aload_n dX1_ask_96 rfl ?_
        refine co_iload dX1_ask_97 rfl ?_
        refine c_vI dX1_ask_99 (ev_X1_nameAt hJ (by omega)) (by decide) hJ.ob rfl rfl (Nat.le_of_ble_eq_true rfl) ?_
        try rw [en, if_pos (by omega)]
        refine r_iast dX1_ask_102 hJ.q_stack (by omega) ?_
        refine s_iinc (ls' := [_, _, _, _, _, _, _, _, _, _]) dX1_ask_103 rfl (Nat.le_of_ble_eq_true rfl) rfl rfl ?_
        refine co_goto (tgt := 312) dX1_ask_106 rfl ?_
        refine s_iinc (ls' := [_, _, _, _, _, _, _, _, _, _]) dX1_ask_312 rfl (Nat.le_of_ble_eq_true rfl) rfl rfl ?_
        refine co_goto (tgt := 19) dX1_ask_315 rfl ?_
        exact absurd c88 (not_not_intro c61)
      · refine co_iload dX1_ask_91 rfl ?_
        refine co_goto (tgt := 102) dX1_ask_93 rfl ?_
        try rw [en, if_pos (by omega)]
        refine r_iast dX1_ask_102 hJ.q_stack (by omega) ?_
        refine s_iinc (ls' := [_, _, _, _, _, _, _, _, _, _]) dX1_ask_103 rfl (Nat.le_of_ble_eq_true rfl) rfl rfl ?_
        refine co_goto (tgt := 312) dX1_ask_106 rfl ?_
        refine s_iinc (ls' := [_, _, _, _, _, _, _, _, _, _]) dX1_ask_312 rfl (Nat.le_of_ble_eq_true rfl) rfl rfl ?_
        refine co_goto (tgt := 19) dX1_ask_315 rfl ?_
        have eN : nxC a (hI h (j + 2)) k v A t S = (A + 1, t + 1, u1 S t v) := by rw [nxC, if_pos c61]
        rw [eN] at hr
        simp only [sI, hI_sA_s, sA_sA]
        exact ih _ _ _ _ _ _ hr
    · refine co_iload dX1_ask_64 rfl ?_
      refine co_bipush (z := 47) dX1_ask_66 rfl ?_
      refine co_icmp_ne (tgt := 109) dX1_ask_68 rfl (by first | omega | (split <;> omega)) (by first | omega | (split <;> omega)) (fun c68 => ?_) (fun c68 => ?_)
      · refine co_iload dX1_ask_109 rfl ?_
        refine co_bipush (z := 50) dX1_ask_111 rfl ?_
        refine co_icmp_ne (tgt := 130) dX1_ask_113 rfl (by first | omega | (split <;> omega)) (by first | omega | (split <;> omega)) (fun c113 => ?_) (fun c113 => ?_)
        · refine co_iload dX1_ask_130 rfl ?_
          refine co_bipush (z := 49) dX1_ask_132 rfl ?_
          refine co_icmp_ne (tgt := 176) dX1_ask_134 rfl (by first | omega | (split <;> omega)) (by first | omega | (split <;> omega)) (fun c134 => ?_) (fun c134 => ?_)
          · refine co_iload dX1_ask_176 rfl ?_
            refine co_bipush (z := 48) dX1_ask_178 rfl ?_
            refine co_icmp_eq (tgt := 204) dX1_ask_180 rfl (by first | omega | (split <;> omega)) (by first | omega | (split <;> omega)) (fun c180 => ?_) (fun c180 => ?_)
            · have o4 := g8 (by omega)
              refine co_iconst dX1_ask_204 ?_
              refine co_iload dX1_ask_205 rfl ?_
              refine co_iconst dX1_ask_207 ?_
              refine co_isub dX1_ask_208 ?_
              refine r_maxI dX1_ask_209 (by decide) (Nat.le_of_ble_eq_true rfl) (by first | omega | (split <;> omega)) (by first | omega | (split <;> omega)) ?_
              rw [show max 0 (t - 1) = t - 1 by omega]
              refine s_istore (ls' := [_, _, _, _, _, _, _, _, _, _]) dX1_ask_212 (Nat.le_of_ble_eq_true rfl) rfl rfl ?_
              refine co_aload_n dX1_ask_214 rfl ?_
              refine r_getR dX1_ask_215 hJ.ob hJ.r_stack ?_
              refine co_iload dX1_ask_218 rfl ?_
              refine co_iload dX1_ask_220 rfl ?_
              refine co_aload_n dX1_ask_222 rfl ?_
              refine r_getR dX1_ask_223 hJ.ob hJ.r_stack ?_
              refine co_iload dX1_ask_226 rfl ?_
              refine r_iald dX1_ask_228 hJ.q_stack (by omega) ?_
              try simp only [ef, eg, hk, hv, hI_sA_s, en]
              refine co_aload_n dX1_ask_229 rfl ?_
              refine c_sI dX1_ask_230 (ev_X1_changed hM hT2 (by omega) (by omega)) (by decide) rfl rfl (Nat.le_of_ble_eq_true rfl) ?_
              refine r_iast dX1_ask_233 hJ.q_stack (by omega) ?_
              refine co_goto (tgt := 312) dX1_ask_234 rfl ?_
              refine s_iinc (ls' := [_, _, _, _, _, _, _, _, _, _]) dX1_ask_312 rfl (Nat.le_of_ble_eq_true rfl) rfl rfl ?_
              refine co_goto (tgt := 19) dX1_ask_315 rfl ?_
              have eN : nxC a (hI h (j + 2)) k v A t S = (A + 1, t, u1 S (t - 1) (cCh a k (S (t - 1)))) := by rw [nxC, if_neg c61, if_neg c68, if_neg c113, if_neg c134, if_pos (by omega)]
              rw [eN] at hr
              simp only [sI, hI_sA_s, sA_sA]
              exact ih _ _ _ _ _ _ hr
            · refine co_iload dX1_ask_183 rfl ?_
              refine co_bipush (z := 14) dX1_ask_185 rfl ?_
              refine co_icmp_eq (tgt := 204) dX1_ask_187 rfl (by first | omega | (split <;> omega)) (by first | omega | (split <;> omega)) (fun c187 => ?_) (fun c187 => ?_)
              · have o4 := g8 (by omega)
                refine co_iconst dX1_ask_204 ?_
                refine co_iload dX1_ask_205 rfl ?_
                refine co_iconst dX1_ask_207 ?_
                refine co_isub dX1_ask_208 ?_
                refine r_maxI dX1_ask_209 (by decide) (Nat.le_of_ble_eq_true rfl) (by first | omega | (split <;> omega)) (by first | omega | (split <;> omega)) ?_
                rw [show max 0 (t - 1) = t - 1 by omega]
                refine s_istore (ls' := [_, _, _, _, _, _, _, _, _, _]) dX1_ask_212 (Nat.le_of_ble_eq_true rfl) rfl rfl ?_
                refine co_aload_n dX1_ask_214 rfl ?_
                refine r_getR dX1_ask_215 hJ.ob hJ.r_stack ?_
                refine co_iload dX1_ask_218 rfl ?_
                refine co_iload dX1_ask_220 rfl ?_
                refine co_aload_n dX1_ask_222 rfl ?_
                refine r_getR dX1_ask_223 hJ.ob hJ.r_stack ?_
                refine co_iload dX1_ask_226 rfl ?_
                refine r_iald dX1_ask_228 hJ.q_stack (by omega) ?_
                try simp only [ef, eg, hk, hv, hI_sA_s, en]
                refine co_aload_n dX1_ask_229 rfl ?_
                refine c_sI dX1_ask_230 (ev_X1_changed hM hT2 (by omega) (by omega)) (by decide) rfl rfl (Nat.le_of_ble_eq_true rfl) ?_
                refine r_iast dX1_ask_233 hJ.q_stack (by omega) ?_
                refine co_goto (tgt := 312) dX1_ask_234 rfl ?_
                refine s_iinc (ls' := [_, _, _, _, _, _, _, _, _, _]) dX1_ask_312 rfl (Nat.le_of_ble_eq_true rfl) rfl rfl ?_
                refine co_goto (tgt := 19) dX1_ask_315 rfl ?_
                have eN : nxC a (hI h (j + 2)) k v A t S = (A + 1, t, u1 S (t - 1) (cCh a k (S (t - 1)))) := by rw [nxC, if_neg c61, if_neg c68, if_neg c113, if_neg c134, if_pos (by omega)]
                rw [eN] at hr
                simp only [sI, hI_sA_s, sA_sA]
                exact ih _ _ _ _ _ _ hr
              · refine co_iload dX1_ask_190 rfl ?_
                refine co_bipush (z := 15) dX1_ask_192 rfl ?_
                refine co_icmp_eq (tgt := 204) dX1_ask_194 rfl (by first | omega | (split <;> omega)) (by first | omega | (split <;> omega)) (fun c194 => ?_) (fun c194 => ?_)
                · have o4 := g8 (by omega)
                  refine co_iconst dX1_ask_204 ?_
                  refine co_iload dX1_ask_205 rfl ?_
                  refine co_iconst dX1_ask_207 ?_
                  refine co_isub dX1_ask_208 ?_
                  refine r_maxI dX1_ask_209 (by decide) (Nat.le_of_ble_eq_true rfl) (by first | omega | (split <;> omega)) (by first | omega | (split <;> omega)) ?_
                  rw [show max 0 (t - 1) = t - 1 by omega]
                  refine s_istore (ls' := [_, _, _, _, _, _, _, _, _, _]) dX1_ask_212 (Nat.le_of_ble_eq_true rfl) rfl rfl ?_
                  refine co_aload_n dX1_ask_214 rfl ?_
                  refine r_getR dX1_ask_215 hJ.ob hJ.r_stack ?_
                  refine co_iload dX1_ask_218 rfl ?_
                  refine co_iload dX1_ask_220 rfl ?_
                  refine co_aload_n dX1_ask_222 rfl ?_
                  refine r_getR dX1_ask_223 hJ.ob hJ.r_stack ?_
                  refine co_iload dX1_ask_226 rfl ?_
                  refine r_iald dX1_ask_228 hJ.q_stack (by omega) ?_
                  try simp only [ef, eg, hk, hv, hI_sA_s, en]
                  refine co_aload_n dX1_ask_229 rfl ?_
                  refine c_sI dX1_ask_230 (ev_X1_changed hM hT2 (by omega) (by omega)) (by decide) rfl rfl (Nat.le_of_ble_eq_true rfl) ?_
                  refine r_iast dX1_ask_233 hJ.q_stack (by omega) ?_
                  refine co_goto (tgt := 312) dX1_ask_234 rfl ?_
                  refine s_iinc (ls' := [_, _, _, _, _, _, _, _, _, _]) dX1_ask_312 rfl (Nat.le_of_ble_eq_true rfl) rfl rfl ?_
                  refine co_goto (tgt := 19) dX1_ask_315 rfl ?_
                  have eN : nxC a (hI h (j + 2)) k v A t S = (A + 1, t, u1 S (t - 1) (cCh a k (S (t - 1)))) := by rw [nxC, if_neg c61, if_neg c68, if_neg c113, if_neg c134, if_pos (by omega)]
                  rw [eN] at hr
                  simp only [sI, hI_sA_s, sA_sA]
                  exact ih _ _ _ _ _ _ hr
                · refine co_iload dX1_ask_197 rfl ?_
                  refine co_bipush (z := 22) dX1_ask_199 rfl ?_
                  refine co_icmp_ne (tgt := 237) dX1_ask_201 rfl (by first | omega | (split <;> omega)) (by first | omega | (split <;> omega)) (fun c201 => ?_) (fun c201 => ?_)
                  · have o5 := g9 (by omega)
                    refine co_iload dX1_ask_237 rfl ?_
                    refine co_iconst dX1_ask_239 ?_
                    refine co_icmp_lt (tgt := 312) dX1_ask_240 rfl (by first | omega | (split <;> omega)) (by first | omega | (split <;> omega)) (fun c240 => ?_) (fun c240 => ?_)
                    · exact absurd c240 (by omega)
                    refine s_iinc (ls' := [_, _, _, _, _, _, _, _, _, _]) dX1_ask_243 rfl (Nat.le_of_ble_eq_true rfl) rfl rfl ?_
                    rw [show t + -1 = t - 1 by omega]
                    refine co_aload_n dX1_ask_246 rfl ?_
                    refine r_getR dX1_ask_247 hJ.ob hJ.r_stack ?_
                    refine co_iload dX1_ask_250 rfl ?_
                    refine co_iconst dX1_ask_252 ?_
                    refine co_isub dX1_ask_253 ?_
                    refine r_iald dX1_ask_254 hJ.q_stack (by omega) ?_
                    try simp only [ef, eg, hk, hv, hI_sA_s, en]
                    refine s_istore (ls' := [_, _, _, _, _, _, _, _, _, _]) dX1_ask_255 (Nat.le_of_ble_eq_true rfl) rfl rfl ?_
                    refine co_aload_n dX1_ask_257 rfl ?_
                    refine r_getR dX1_ask_258 hJ.ob hJ.r_stack ?_
                    refine co_iload dX1_ask_261 rfl ?_
                    refine co_iconst dX1_ask_263 ?_
                    refine co_isub dX1_ask_264 ?_
                    refine co_iload dX1_ask_265 rfl ?_
                    refine co_bipush (z := 38) dX1_ask_267 rfl ?_
                    refine co_icmp_lt (tgt := 289) dX1_ask_269 rfl (by first | omega | (split <;> omega)) (by first | omega | (split <;> omega)) (fun c269 => ?_) (fun c269 => ?_)
                    · refine co_iload dX1_ask_289 rfl ?_
                      refine co_iload dX1_ask_291 rfl ?_
                      refine co_aload_n dX1_ask_293 rfl ?_
                      refine r_getR dX1_ask_294 hJ.ob hJ.r_stack ?_
                      refine co_iload dX1_ask_297 rfl ?_
                      refine r_iald dX1_ask_299 hJ.q_stack (by omega) ?_
                      try simp only [ef, eg, hk, hv, hI_sA_s, en]
                      refine c_sI dX1_ask_300 (ev_X1_isSo (by omega) (by omega) (by omega)) (by decide) rfl rfl (Nat.le_of_ble_eq_true rfl) ?_
                      refine co_if_eq (tgt := 310) dX1_ask_303 rfl (by first | omega | (split <;> omega)) (fun c303 => ?_) (fun c303 => ?_)
                      · refine co_iconst dX1_ask_310 ?_
                        refine r_iast dX1_ask_311 hJ.q_stack (by omega) ?_
                        refine s_iinc (ls' := [_, _, _, _, _, _, _, _, _, _]) dX1_ask_312 rfl (Nat.le_of_ble_eq_true rfl) rfl rfl ?_
                        refine co_goto (tgt := 19) dX1_ask_315 rfl ?_
                        have cs : ¬ cSo k (S (t - 1 - 1)) (S (t - 1)) = true := it_0i c303
                        have eN : nxC a (hI h (j + 2)) k v A t S = (A + 1, t - 1, u1 S (t - 1 - 1) 0) := by rw [nxC, if_neg c61, if_neg c68, if_neg c113, if_neg c134, if_neg (by omega), if_neg (by omega), if_neg cs]
                        rw [eN] at hr
                        simp only [sI, hI_sA_s, sA_sA]
                        exact ih _ _ _ _ _ _ hr
                      · refine co_iconst dX1_ask_306 ?_
                        refine co_goto (tgt := 311) dX1_ask_307 rfl ?_
                        refine r_iast dX1_ask_311 hJ.q_stack (by omega) ?_
                        refine s_iinc (ls' := [_, _, _, _, _, _, _, _, _, _]) dX1_ask_312 rfl (Nat.le_of_ble_eq_true rfl) rfl rfl ?_
                        refine co_goto (tgt := 19) dX1_ask_315 rfl ?_
                        have cs : cSo k (S (t - 1 - 1)) (S (t - 1)) = true := it_1i c303
                        have eN : nxC a (hI h (j + 2)) k v A t S = (A + 1, t - 1, u1 S (t - 1 - 1) 1) := by rw [nxC, if_neg c61, if_neg c68, if_neg c113, if_neg c134, if_neg (by omega), if_neg (by omega), if_pos cs]
                        rw [eN] at hr
                        simp only [sI, hI_sA_s, sA_sA]
                        exact ih _ _ _ _ _ _ hr
                    · refine co_iload dX1_ask_272 rfl ?_
                      refine co_iload dX1_ask_274 rfl ?_
                      refine co_aload_n dX1_ask_276 rfl ?_
                      refine r_getR dX1_ask_277 hJ.ob hJ.r_stack ?_
                      refine co_iload dX1_ask_280 rfl ?_
                      refine r_iald dX1_ask_282 hJ.q_stack (by omega) ?_
                      try simp only [ef, eg, hk, hv, hI_sA_s, en]
                      refine c_sI dX1_ask_283 (ev_X1_reckoned (by omega) (by omega) (by omega)) (by decide) rfl rfl (Nat.le_of_ble_eq_true rfl) ?_
                      refine co_goto (tgt := 311) dX1_ask_286 rfl ?_
                      refine r_iast dX1_ask_311 hJ.q_stack (by omega) ?_
                      refine s_iinc (ls' := [_, _, _, _, _, _, _, _, _, _]) dX1_ask_312 rfl (Nat.le_of_ble_eq_true rfl) rfl rfl ?_
                      refine co_goto (tgt := 19) dX1_ask_315 rfl ?_
                      have eN : nxC a (hI h (j + 2)) k v A t S = (A + 1, t - 1, u1 S (t - 1 - 1) (cRc k (S (t - 1 - 1)) (S (t - 1)))) := by rw [nxC, if_neg c61, if_neg c68, if_neg c113, if_neg c134, if_neg (by omega), if_pos c269]
                      rw [eN] at hr
                      simp only [sI, hI_sA_s, sA_sA]
                      exact ih _ _ _ _ _ _ hr
                  · have o4 := g8 (by omega)
                    refine co_iconst dX1_ask_204 ?_
                    refine co_iload dX1_ask_205 rfl ?_
                    refine co_iconst dX1_ask_207 ?_
                    refine co_isub dX1_ask_208 ?_
                    refine r_maxI dX1_ask_209 (by decide) (Nat.le_of_ble_eq_true rfl) (by first | omega | (split <;> omega)) (by first | omega | (split <;> omega)) ?_
                    rw [show max 0 (t - 1) = t - 1 by omega]
                    refine s_istore (ls' := [_, _, _, _, _, _, _, _, _, _]) dX1_ask_212 (Nat.le_of_ble_eq_true rfl) rfl rfl ?_
                    refine co_aload_n dX1_ask_214 rfl ?_
                    refine r_getR dX1_ask_215 hJ.ob hJ.r_stack ?_
                    refine co_iload dX1_ask_218 rfl ?_
                    refine co_iload dX1_ask_220 rfl ?_
                    refine co_aload_n dX1_ask_222 rfl ?_
                    refine r_getR dX1_ask_223 hJ.ob hJ.r_stack ?_
                    refine co_iload dX1_ask_226 rfl ?_
                    refine r_iald dX1_ask_228 hJ.q_stack (by omega) ?_
                    try simp only [ef, eg, hk, hv, hI_sA_s, en]
                    refine co_aload_n dX1_ask_229 rfl ?_
                    refine c_sI dX1_ask_230 (ev_X1_changed hM hT2 (by omega) (by omega)) (by decide) rfl rfl (Nat.le_of_ble_eq_true rfl) ?_
                    refine r_iast dX1_ask_233 hJ.q_stack (by omega) ?_
                    refine co_goto (tgt := 312) dX1_ask_234 rfl ?_
                    refine s_iinc (ls' := [_, _, _, _, _, _, _, _, _, _]) dX1_ask_312 rfl (Nat.le_of_ble_eq_true rfl) rfl rfl ?_
                    refine co_goto (tgt := 19) dX1_ask_315 rfl ?_
                    have eN : nxC a (hI h (j + 2)) k v A t S = (A + 1, t, u1 S (t - 1) (cCh a k (S (t - 1)))) := by rw [nxC, if_neg c61, if_neg c68, if_neg c113, if_neg c134, if_pos (by omega)]
                    rw [eN] at hr
                    simp only [sI, hI_sA_s, sA_sA]
                    exact ih _ _ _ _ _ _ hr
          · have o3 := g7 (by omega)
            have o4 := g8 (by omega)
            refine co_iconst dX1_ask_137 ?_
            refine co_iload dX1_ask_138 rfl ?_
            refine co_iconst dX1_ask_140 ?_
            refine co_isub dX1_ask_141 ?_
            refine r_maxI dX1_ask_142 (by decide) (Nat.le_of_ble_eq_true rfl) (by first | omega | (split <;> omega)) (by first | omega | (split <;> omega)) ?_
            rw [show max 0 (t - 1) = t - 1 by omega]
            refine s_istore (ls' := [_, _, _, _, _, _, _, _, _, _]) dX1_ask_145 (Nat.le_of_ble_eq_true rfl) rfl rfl ?_
            refine co_aload_n dX1_ask_147 rfl ?_
            refine r_getR dX1_ask_148 hJ.ob hJ.r_stack ?_
            refine co_iload dX1_ask_151 rfl ?_
            refine r_iald dX1_ask_153 hJ.q_stack (by omega) ?_
            try simp only [ef, eg, hk, hv, hI_sA_s, en]
            refine co_if_eq (tgt := 162) dX1_ask_154 rfl (by first | omega | (split <;> omega)) (fun c154 => ?_) (fun c154 => ?_)
            · refine co_iload dX1_ask_162 rfl ?_
              refine co_iload dX1_ask_164 rfl ?_
              refine co_iconst dX1_ask_166 ?_
              refine co_isub dX1_ask_167 ?_
              refine r_maxI dX1_ask_168 (by decide) (Nat.le_of_ble_eq_true rfl) (by first | omega | (split <;> omega)) (by first | omega | (split <;> omega)) ?_
              try rw [show max A (v - 1) = v - 1 by omega]
              refine s_istore (ls' := [_, _, _, _, _, _, _, _, _, _]) dX1_ask_171 (Nat.le_of_ble_eq_true rfl) rfl rfl ?_
              refine co_goto (tgt := 312) dX1_ask_173 rfl ?_
              refine s_iinc (ls' := [_, _, _, _, _, _, _, _, _, _]) dX1_ask_312 rfl (Nat.le_of_ble_eq_true rfl) rfl rfl ?_
              refine co_goto (tgt := 19) dX1_ask_315 rfl ?_
              have eN : nxC a (hI h (j + 2)) k v A t S = (v, t - 1, S) := by rw [nxC, if_neg c61, if_neg c68, if_neg c113, if_pos c134, if_pos c154]
              rw [eN] at hr
              rw [show v - 1 + 1 = v by omega]
              exact ih _ _ _ _ _ _ hr
            · refine co_iload dX1_ask_157 rfl ?_
              refine co_goto (tgt := 171) dX1_ask_159 rfl ?_
              try rw [show max A (v - 1) = v - 1 by omega]
              refine s_istore (ls' := [_, _, _, _, _, _, _, _, _, _]) dX1_ask_171 (Nat.le_of_ble_eq_true rfl) rfl rfl ?_
              refine co_goto (tgt := 312) dX1_ask_173 rfl ?_
              refine s_iinc (ls' := [_, _, _, _, _, _, _, _, _, _]) dX1_ask_312 rfl (Nat.le_of_ble_eq_true rfl) rfl rfl ?_
              refine co_goto (tgt := 19) dX1_ask_315 rfl ?_
              have eN : nxC a (hI h (j + 2)) k v A t S = (A + 1, t - 1, S) := by rw [nxC, if_neg c61, if_neg c68, if_neg c113, if_pos c134, if_neg c154]
              rw [eN] at hr
              exact ih _ _ _ _ _ _ hr
        · have o3 := g7 (by omega)
          refine co_iload dX1_ask_116 rfl ?_
          refine co_iload dX1_ask_118 rfl ?_
          refine co_iconst dX1_ask_120 ?_
          refine co_isub dX1_ask_121 ?_
          refine r_maxI dX1_ask_122 (by decide) (Nat.le_of_ble_eq_true rfl) (by first | omega | (split <;> omega)) (by first | omega | (split <;> omega)) ?_
          rw [show max A (v - 1) = v - 1 by omega]
          refine s_istore (ls' := [_, _, _, _, _, _, _, _, _, _]) dX1_ask_125 (Nat.le_of_ble_eq_true rfl) rfl rfl ?_
          refine co_goto (tgt := 312) dX1_ask_127 rfl ?_
          refine s_iinc (ls' := [_, _, _, _, _, _, _, _, _, _]) dX1_ask_312 rfl (Nat.le_of_ble_eq_true rfl) rfl rfl ?_
          refine co_goto (tgt := 19) dX1_ask_315 rfl ?_
          have eN : nxC a (hI h (j + 2)) k v A t S = (v, t, S) := by rw [nxC, if_neg c61, if_neg c68, if_pos c113]
          rw [eN] at hr
          rw [show v - 1 + 1 = v by omega]
          exact ih _ _ _ _ _ _ hr
      · have o1 := g5 (by omega)
        refine co_iload dX1_ask_71 rfl ?_
        refine co_bipush (z := 64) dX1_ask_73 rfl ?_
        refine co_icmp_ge (tgt := 312) dX1_ask_75 rfl (by first | omega | (split <;> omega)) (by first | omega | (split <;> omega)) (fun c75 => ?_) (fun c75 => ?_)
        · exact absurd c75 (by omega)
        refine co_aload_n dX1_ask_78 rfl ?_
        refine r_getR dX1_ask_79 hJ.ob hJ.r_stack ?_
        refine co_iload dX1_ask_82 rfl ?_
        refine co_iload dX1_ask_84 rfl ?_
        refine co_bipush (z := 31) dX1_ask_86 rfl ?_
        refine co_icmp_ne (tgt := 96) dX1_ask_88 rfl (by first | omega | (split <;> omega)) (by first | omega | (split <;> omega)) (fun c88 => ?_) (fun c88 => ?_)
        · have o2 := g6 (by omega)
          refine co_aload_n dX1_ask_96 rfl ?_
          refine co_iload dX1_ask_97 rfl ?_
          refine c_vI dX1_ask_99 (ev_X1_nameAt hJ (by omega)) (by decide) hJ.ob rfl rfl (Nat.le_of_ble_eq_true rfl) ?_
          try rw [en, if_pos (by omega)]
          refine r_iast dX1_ask_102 hJ.q_stack (by omega) ?_
          refine s_iinc (ls' := [_, _, _, _, _, _, _, _, _, _]) dX1_ask_103 rfl (Nat.le_of_ble_eq_true rfl) rfl rfl ?_
          refine co_goto (tgt := 312) dX1_ask_106 rfl ?_
          refine s_iinc (ls' := [_, _, _, _, _, _, _, _, _, _]) dX1_ask_312 rfl (Nat.le_of_ble_eq_true rfl) rfl rfl ?_
          refine co_goto (tgt := 19) dX1_ask_315 rfl ?_
          have eN : nxC a (hI h (j + 2)) k v A t S = (A + 1, t + 1, u1 S t (hI h (j + 2) v)) := by rw [nxC, if_neg c61, if_pos c68]
          rw [eN] at hr
          simp only [sI, hI_sA_s, sA_sA]
          exact ih _ _ _ _ _ _ hr
        · refine co_iload dX1_ask_91 rfl ?_
          refine co_goto (tgt := 102) dX1_ask_93 rfl ?_
          try rw [en, if_pos (by omega)]
          refine r_iast dX1_ask_102 hJ.q_stack (by omega) ?_
          refine s_iinc (ls' := [_, _, _, _, _, _, _, _, _, _]) dX1_ask_103 rfl (Nat.le_of_ble_eq_true rfl) rfl rfl ?_
          refine co_goto (tgt := 312) dX1_ask_106 rfl ?_
          refine s_iinc (ls' := [_, _, _, _, _, _, _, _, _, _]) dX1_ask_312 rfl (Nat.le_of_ble_eq_true rfl) rfl rfl ?_
          refine co_goto (tgt := 19) dX1_ask_315 rfl ?_
          exact absurd c88 (by omega)
theorem eA_of {E : Int} {h : ph} {j : Nat} {S : Int → Int} {z : Int} (e : z = E) : (fun (r : Option Value) (h1 : ph) => r = some (vI E) ∧ ∃ S' : Int → Int, h1 = sA h (j + 1) S') (some (vI z)) (sA h (j + 1) S) := ⟨by rw [e], S, rfl⟩
def eA (E : Int) (h : ph) (j : Nat) : Option Value → ph → Prop := fun r h1 => r = some (vI E) ∧ ∃ S : Int → Int, h1 = sA h (j + 1) S
set_option maxRecDepth 20000 in
theorem ev_X1_ask {G : gG} {l : Launch} {h : ph} {q : Nat} {j s : Nat} {a : Int → Int} {w s0 e E : Int} (hM : isT h q) (hT : TR (hI h (q + 1)) (hI h (q + 2)) (hI h (q + 3)) a) (hJ : isJ h j) (hs : isS h s) (hd1 : q + 3 < j ∨ j + 2 < q) (hd2 : s + 7 < j ∨ j + 2 < s) (hw : 0 ≤ w ∧ w < 3) (hs0 : hI h (s + 3) w = s0) (he : hI h (s + 4) w = e) (hL : LawC a (hI h (j + 2)) (hI h (s + 1)) (hI h (s + 2)) s0 e E) : Ev G l mX1_ask 3 0 0 [.ref j, .ref s, vI w, .ref q] h (eA E h j) := by
  obtain ⟨g1, g2, g3⟩ := hL
  obtain ⟨n, t, S, hr, hE⟩ := g3 (hI h (j + 1))
  unfold rg6 at g2
  refine ev_of (ls := [some (.ref j), some (.ref s), some (vI w), some (.ref q), none, none, none, none, none, none]) (by decide +kernel) (Nat.le_of_ble_eq_true rfl) rfl ?_
  refine co_iconst dX1_ask_0 ?_
  refine s_istore (ls' := [_, _, _, _, _, _, _, _, _, _]) dX1_ask_1 (Nat.le_of_ble_eq_true rfl) rfl rfl ?_
  refine co_aload_n dX1_ask_3 rfl ?_
  refine r_getR dX1_ask_4 hs.ob hs.r_ends ?_
  refine co_iload_n dX1_ask_7 rfl ?_
  refine r_iald dX1_ask_8 hs.q_ends (by omega) ?_
  refine s_istore (ls' := [_, _, _, _, _, _, _, _, _, _]) dX1_ask_9 (Nat.le_of_ble_eq_true rfl) rfl rfl ?_
  refine co_aload_n dX1_ask_11 rfl ?_
  refine r_getR dX1_ask_12 hs.ob hs.r_starts ?_
  refine co_iload_n dX1_ask_15 rfl ?_
  refine r_iald dX1_ask_16 hs.q_starts (by omega) ?_
  refine s_istore (ls' := [_, _, _, _, _, _, _, _, _, _]) dX1_ask_17 (Nat.le_of_ble_eq_true rfl) rfl rfl ?_
  have e9 : h = sA h (j + 1) (hI h (j + 1)) := (sA_self h (j + 1)).symm
  refine nt_fig_at e9 ?_
  rw [hs0, he]
  refine ask_run hM hT hJ hs hd1 hd2 (by omega) (fun w7 w8 w9 => ?_) n _ _ _ none none none hr
  simp only
  refine co_iload dX1_ask_19 rfl ?_
  refine co_if_lt (tgt := 318) dX1_ask_21 rfl (by omega) (fun c21 => ?_) (fun c21 => ?_)
  · exact absurd c21 (by omega)
  refine co_iload dX1_ask_24 rfl ?_
  refine co_iload dX1_ask_26 rfl ?_
  refine co_icmp_ge (tgt := 318) dX1_ask_28 rfl (by omega) (by omega) (fun c28 => ?_) (fun c28 => ?_)
  rotate_left
  · exact absurd c28 (by omega)
  refine co_aload_n dX1_ask_318 rfl ?_
  refine r_getR dX1_ask_319 hJ.ob hJ.r_stack ?_
  refine co_iconst dX1_ask_322 ?_
  refine r_iald dX1_ask_323 hJ.q_stack (by omega) ?_
  exact co_ireturn dX1_ask_324 rfl ⟨by rw [hI_sA_s, hE], S, rfl⟩
/-- the names as the class tells them -/
def nmC (a : Int → Int) (x r : Int) : Int → Int := fun i => if i = 0 then a 10 else if i = 1 then a 11 else if i = 2 then r else if i = 3 then x else if i = 4 then (if 0 ≤ x ∧ x < a 0 then a (16 + 4 * x + 1) else 0) else if i = 5 then (if 0 ≤ x then mRid a x else -1) else if i = 6 then (if 0 ≤ (if 0 ≤ x then mRid a x else -1) ∧ (if 0 ≤ x then mRid a x else -1) < a 1 then a (48 + 4 * (if 0 ≤ x then mRid a x else -1) + 2) else 0) else if i = 7 then (if 0 ≤ (if 0 ≤ x then mRid a x else -1) ∧ (if 0 ≤ x then mRid a x else -1) < a 1 then a (48 + 4 * (if 0 ≤ x then mRid a x else -1) + 0) else 0) else (if 0 ≤ x then mRid a x else -1)
theorem nmC_eq {a : Int → Int} {x r : Int} {f : Int → Int} {y : Int} (hy : y = (if 0 ≤ x then mRid a x else -1)) : ∀ i : Int, 0 ≤ i ∧ i < 9 → u1 (u1 (u1 (u1 (u1 (u1 (u1 (u1 (u1 f 0 (a 10)) 1 (a 11)) 2 r) 3 x) 4 (if 0 ≤ x ∧ x < a 0 then a (16 + 4 * x + 1) else 0)) 5 y) 6 (if 0 ≤ y ∧ y < a 1 then a (48 + 4 * y + 2) else 0)) 7 (if 0 ≤ y ∧ y < a 1 then a (48 + 4 * y + 0) else 0)) 8 y i = nmC a x r i := by
  subst hy
  intro i hi
  rcases (by omega : i = 0 ∨ i = 1 ∨ i = 2 ∨ i = 3 ∨ i = 4 ∨ i = 5 ∨ i = 6 ∨ i = 7 ∨ i = 8) with e | e | e | e | e | e | e | e | e <;> subst e <;> rfl
def eTn (h : ph) (j : Nat) (f : Int → Int) : Option Value → ph → Prop := fun r h1 => r = none ∧ ∃ N : Int → Int, h1 = sA h (j + 2) N ∧ ∀ i : Int, 0 ≤ i ∧ i < 9 → N i = f i
set_option maxRecDepth 20000 in
theorem ev_X1_tellNames {G : gG} {l : Launch} {h : ph} {q : Nat} {j : Nat} {a : Int → Int} {x r : Int} (hM : isT h q) (hT : TR (hI h (q + 1)) (hI h (q + 2)) (hI h (q + 3)) a) (hJ : isJ h j) (hd1 : q + 3 < j ∨ j + 2 < q) (rx : -2147483648 ≤ x ∧ x ≤ 2147483647) : Ev G l mX1_tellNames 2 0 0 [.ref j, .ref q, vI x, vI r] h (eTn h j (nmC a x r)) := by
  have hA := hT.ia
  have h0 := hA.nh
  have h1 := hA.nb
  have hr9 : -2147483648 ≤ (if 0 ≤ x then mRid a x else -1) ∧ (if 0 ≤ x then mRid a x else -1) ≤ 2147483647 := by have := mRid_rng hA x; split <;> omega
  have tt : ∀ N : Int → Int, TR (hI (sA h (j + 2) N) (q + 1)) (hI (sA h (j + 2) N) (q + 2)) (hI (sA h (j + 2) N) (q + 3)) a := fun N => by
    rw [hI_sA_n _ _ (by omega), hI_sA_n _ _ (by omega), hI_sA_n _ _ (by omega)]; exact hT
  have up : ∀ (N : Int → Int) (i v : Int), sI (sA h (j + 2) N) (j + 2) i v = sA h (j + 2) (u1 N i v) := fun N i v => by unfold sI; rw [hI_sA_s, sA_sA]
  refine ev_of (ls := [some (.ref j), some (.ref q), some (vI x), some (vI r), none]) (by decide +kernel) (Nat.le_of_ble_eq_true rfl) rfl ?_
  refine nt_fig_at (sA_self h (j + 2)).symm ?_
  refine co_aload_n dX1_tellNames_0 rfl ?_
  refine co_iload_n dX1_tellNames_1 rfl ?_
  refine c_vI dX1_tellNames_2 (ev_X7_riderOf hM (tt _) rx) (by decide) hM.ob rfl rfl (Nat.le_of_ble_eq_true rfl) ?_
  refine s_istore (ls' := [_, _, _, _, _]) dX1_tellNames_5 (Nat.le_of_ble_eq_true rfl) rfl rfl ?_
  generalize hy : (if 0 ≤ x then mRid a x else -1) = y at hr9 ⊢
  refine co_aload_n dX1_tellNames_7 rfl ?_
  refine r_getR dX1_tellNames_8 hJ.ob hJ.r_names ?_
  refine co_iconst dX1_tellNames_11 ?_
  refine co_aload_n dX1_tellNames_12 rfl ?_
  refine c_vI dX1_tellNames_13 (ev_X7_thisMinute hM (tt _)) (by decide) hM.ob rfl rfl (Nat.le_of_ble_eq_true rfl) ?_
  refine r_iast dX1_tellNames_16 hJ.q_names (by omega) ?_
  try rw [up]
  refine co_aload_n dX1_tellNames_17 rfl ?_
  refine r_getR dX1_tellNames_18 hJ.ob hJ.r_names ?_
  refine co_iconst dX1_tellNames_21 ?_
  refine co_aload_n dX1_tellNames_22 rfl ?_
  refine c_vI dX1_tellNames_23 (ev_X7_snow hM (tt _)) (by decide) hM.ob rfl rfl (Nat.le_of_ble_eq_true rfl) ?_
  refine r_iast dX1_tellNames_26 hJ.q_names (by omega) ?_
  try rw [up]
  refine co_aload_n dX1_tellNames_27 rfl ?_
  refine r_getR dX1_tellNames_28 hJ.ob hJ.r_names ?_
  refine co_iconst dX1_tellNames_31 ?_
  refine co_iload_n dX1_tellNames_32 rfl ?_
  refine r_iast dX1_tellNames_33 hJ.q_names (by omega) ?_
  try rw [up]
  refine co_aload_n dX1_tellNames_34 rfl ?_
  refine r_getR dX1_tellNames_35 hJ.ob hJ.r_names ?_
  refine co_iconst dX1_tellNames_38 ?_
  refine co_iload_n dX1_tellNames_39 rfl ?_
  refine r_iast dX1_tellNames_40 hJ.q_names (by omega) ?_
  try rw [up]
  refine co_aload_n dX1_tellNames_41 rfl ?_
  refine r_getR dX1_tellNames_42 hJ.ob hJ.r_names ?_
  refine co_iconst dX1_tellNames_45 ?_
  refine co_aload_n dX1_tellNames_46 rfl ?_
  refine co_iload_n dX1_tellNames_47 rfl ?_
  refine c_vI dX1_tellNames_48 (ev_X7_wearOf hM (tt _) rx) (by decide) hM.ob rfl rfl (Nat.le_of_ble_eq_true rfl) ?_
  refine r_iast dX1_tellNames_51 hJ.q_names (by omega) ?_
  try rw [up]
  refine co_aload_n dX1_tellNames_52 rfl ?_
  refine r_getR dX1_tellNames_53 hJ.ob hJ.r_names ?_
  refine co_iconst dX1_tellNames_56 ?_
  refine co_iload dX1_tellNames_57 rfl ?_
  refine r_iast dX1_tellNames_59 hJ.q_names (by omega) ?_
  try rw [up]
  refine co_aload_n dX1_tellNames_60 rfl ?_
  refine r_getR dX1_tellNames_61 hJ.ob hJ.r_names ?_
  refine co_bipush (z := 6) dX1_tellNames_64 rfl ?_
  refine co_aload_n dX1_tellNames_66 rfl ?_
  refine co_iload dX1_tellNames_67 rfl ?_
  refine c_vI dX1_tellNames_69 (ev_X7_sizeOf hM (tt _) (by omega)) (by decide) hM.ob rfl rfl (Nat.le_of_ble_eq_true rfl) ?_
  refine r_iast dX1_tellNames_72 hJ.q_names (by omega) ?_
  try rw [up]
  refine co_aload_n dX1_tellNames_73 rfl ?_
  refine r_getR dX1_tellNames_74 hJ.ob hJ.r_names ?_
  refine co_bipush (z := 7) dX1_tellNames_77 rfl ?_
  refine co_aload_n dX1_tellNames_79 rfl ?_
  refine co_iload dX1_tellNames_80 rfl ?_
  refine c_vI dX1_tellNames_82 (ev_X7_tiredOf hM (tt _) (by omega)) (by decide) hM.ob rfl rfl (Nat.le_of_ble_eq_true rfl) ?_
  refine r_iast dX1_tellNames_85 hJ.q_names (by omega) ?_
  try rw [up]
  refine co_aload_n dX1_tellNames_86 rfl ?_
  refine r_getR dX1_tellNames_87 hJ.ob hJ.r_names ?_
  refine co_bipush (z := 8) dX1_tellNames_90 rfl ?_
  refine co_iload dX1_tellNames_92 rfl ?_
  refine r_iast dX1_tellNames_94 hJ.q_names (by omega) ?_
  try rw [up]
  exact co_return dX1_tellNames_95 rfl ⟨rfl, _, rfl, nmC_eq hy.symm⟩
