-- ===== the reference: keep, undo =====
theorem sI_sA (h : ph) (q : Nat) (f : Int → Int) (i x : Int) : sI (sA h q f) q i x = sA h q (u1 f i x) := by
  simp only [sI, hI_sA_s, sA_sA]
def kSh (f : Int → Int) (k : Int) : Int → Int := fun j => if 130 ≤ j ∧ j < 130 + k then f (j + 35) else f j
def kEnt (f : Int → Int) (i : Int) : Int := if i = 0 then f 0 else if i = 1 then f 1 else if i < 7 then f (10 + (i - 2)) else if i < 23 then f (16 + 4 * ((i - 7) / 2) + (i - 7) % 2) else f (48 + 4 * ((i - 23) / 2) + (i - 23) % 2)
def kP (f : Int → Int) (x c : Int) : Int → Int := fun j => if x ≤ j ∧ j < x + c then kEnt f (j - x) else f j
theorem kSh_s (f : Int → Int) {k : Int} (hk : 0 ≤ k) : u1 (kSh f k) (130 + k) (f (165 + k)) = kSh f (k + 1) := by
  funext j
  unfold u1 kSh
  by_cases h : j = 130 + k
  · subst h
    rw [if_pos rfl, if_pos (by omega)]
    congr 1
    omega
  · rw [if_neg h]
    by_cases h2 : 130 ≤ j ∧ j < 130 + k
    · rw [if_pos h2, if_pos (by omega)]
    · rw [if_neg h2, if_neg (by omega)]
theorem kSh_hi (f : Int → Int) {k j : Int} (h : 130 + k ≤ j) : kSh f k j = f j := if_neg (by omega)
theorem kSh_lo (f : Int → Int) {k j : Int} (h : j < 130) : kSh f k j = f j := if_neg (by omega)
theorem kSh_0 (f : Int → Int) : kSh f 0 = f := by
  funext j
  exact if_neg (by omega)
theorem kP_0 (f : Int → Int) (x : Int) : kP f x 0 = f := by
  funext j
  exact if_neg (by omega)
theorem kP_lt (f : Int → Int) {x c j : Int} (h : j < x) : kP f x c j = f j := if_neg (by omega)
theorem kP_s (f : Int → Int) {x c c' i v : Int} (hc : 0 ≤ c) (hi : i = x + c) (hc' : c' = c + 1) (hv : v = kEnt f c) : u1 (kP f x c) i v = kP f x c' := by
  subst hi; subst hc'; subst hv
  funext j
  unfold u1 kP
  by_cases h : j = x + c
  · subst h
    rw [if_pos rfl, if_pos (by omega)]
    congr 1
    omega
  · rw [if_neg h]
    by_cases h2 : x ≤ j ∧ j < x + c
    · rw [if_pos h2, if_pos (by omega)]
    · rw [if_neg h2, if_neg (by omega)]
def kF (a : Int → Int) : Int → Int := if a 4 = 30 then u1 (kSh a 1015) 4 29 else a
/-- a step is kept -/
def mKeep (a : Int → Int) : Int → Int := u1 (kP (kF a) (130 + 35 * kF a 4) 35) 4 (kF a 4 + 1)
theorem kE_m (f : Int → Int) {k : Int} (h : 0 ≤ k ∧ k < 5) : f (10 + k) = kEnt f (2 + k) := by
  unfold kEnt
  rw [if_neg (by omega), if_neg (by omega), if_pos (by omega)]
  congr 1
  omega
theorem kE_h (f : Int → Int) {x k : Int} (h : 0 ≤ x ∧ x < 8) (hk : 0 ≤ k ∧ k < 2) : f (16 + 4 * x + k) = kEnt f (7 + 2 * x + k) := by
  unfold kEnt
  rw [if_neg (by omega), if_neg (by omega), if_neg (by omega), if_pos (by omega)]
  congr 1
  omega
theorem kE_b (f : Int → Int) {x k : Int} (h : 0 ≤ x ∧ x < 6) (hk : 0 ≤ k ∧ k < 2) : f (48 + 4 * x + k) = kEnt f (23 + 2 * x + k) := by
  unfold kEnt
  rw [if_neg (by omega), if_neg (by omega), if_neg (by omega), if_neg (by omega)]
  congr 1
  omega
set_option maxRecDepth 20000 in
theorem keep_b {G : gG} {l : Launch} {h : ph} {o : Nat} {f : Int → Int} {w9 w8 : Option Value} (hM : isM h o) {x : Int} (hx : x = 130 + 35 * f 4) (h4 : 0 ≤ f 4 ∧ f 4 < 30) : Co G l mX11_keep 1 0 0 0 0 70 [some (.ref o), some (vI x), w9, w8] [] (sA h (o + 1) f) (eV (sA h (o + 1) (u1 (kP f x 35) 4 (f 4 + 1)))) := by
  have l3 : ∀ (n : Nat) (b : Int) (w8 : Option Value), 0 ≤ b ∧ b + n = 6 → Co G l mX11_keep 1 0 0 0 0 178 [some (.ref o), some (vI x), some (vI b), w8] [] (sA h (o + 1) (kP f x (23 + 2 * b))) (eV (sA h (o + 1) (u1 (kP f x 35) 4 (f 4 + 1)))) := by
    intro n
    induction n with
    | zero =>
      intro b w8 hb
      obtain rfl : b = 6 := by omega
      refine co_iload_n dX11_keep_178 rfl ?_
      refine co_bipush (z := 6) dX11_keep_179 rfl ?_
      refine co_icmp_ge (tgt := 224) dX11_keep_181 rfl (by omega) (by omega) (fun c181 => ?_) (fun c181 => ?_)
      rotate_left
      · exact absurd c181 (by omega)
      refine co_aload_n dX11_keep_224 rfl ?_
      refine r_getR dX11_keep_225 hM.ob hM.r_a ?_
      try simp (disch := omega) only [hI_sA_s, hI_sA_n, sI_sA, kP_lt]
      refine co_iconst dX11_keep_228 ?_
      refine co_dup2 dX11_keep_229 rfl rfl ?_
      refine r_iald dX11_keep_230 hM.q_a (by omega) ?_
      try simp (disch := omega) only [hI_sA_s, hI_sA_n, sI_sA, kP_lt]
      refine co_iconst dX11_keep_231 ?_
      refine co_iadd dX11_keep_232 ?_
      refine r_iast dX11_keep_233 hM.q_a (by omega) ?_
      try simp (disch := omega) only [hI_sA_s, hI_sA_n, sI_sA, kP_lt]
      exact co_return dX11_keep_234 rfl (eV_of rfl)
    | succ n ih =>
      intro b w8 hb
      refine co_iload_n dX11_keep_178 rfl ?_
      refine co_bipush (z := 6) dX11_keep_179 rfl ?_
      refine co_icmp_ge (tgt := 224) dX11_keep_181 rfl (by omega) (by omega) (fun c181 => ?_) (fun c181 => ?_)
      · exact absurd c181 (by omega)
      refine co_iconst dX11_keep_184 ?_
      refine s_istore_n (ls' := [_, _, _, _]) dX11_keep_185 (Nat.le_of_ble_eq_true rfl) rfl rfl ?_
      refine co_iload_n dX11_keep_186 rfl ?_
      refine co_iconst dX11_keep_187 ?_
      refine co_icmp_ge (tgt := 218) dX11_keep_188 rfl (by omega) (by omega) (fun c188_0 => ?_) (fun c188_0 => ?_)
      · exact absurd c188_0 (by omega)
      refine co_aload_n dX11_keep_191 rfl ?_
      refine r_getR dX11_keep_192 hM.ob hM.r_a ?_
      try simp (disch := omega) only [hI_sA_s, hI_sA_n, sI_sA, kP_lt]
      refine co_iload_n dX11_keep_195 rfl ?_
      refine co_bipush (z := 23) dX11_keep_196 rfl ?_
      refine co_iadd dX11_keep_198 ?_
      refine co_iconst dX11_keep_199 ?_
      refine co_iload_n dX11_keep_200 rfl ?_
      refine co_imul dX11_keep_201 ?_
      refine co_iadd dX11_keep_202 ?_
      refine co_iload_n dX11_keep_203 rfl ?_
      refine co_iadd dX11_keep_204 ?_
      refine co_aload_n dX11_keep_205 rfl ?_
      refine co_iload_n dX11_keep_206 rfl ?_
      refine co_iload_n dX11_keep_207 rfl ?_
      refine c_vI dX11_keep_208 (ev_X11_of hM (by omega)) (by decide) hM.ob rfl rfl (Nat.le_of_ble_eq_true rfl) ?_
      try simp (disch := omega) only [hI_sA_s, hI_sA_n, sI_sA, kP_lt]
      refine r_iast dX11_keep_211 hM.q_a (by omega) ?_
      try simp (disch := omega) only [hI_sA_s, hI_sA_n, sI_sA, kP_lt]
      refine s_iinc (ls' := [_, _, _, _]) dX11_keep_212 rfl (Nat.le_of_ble_eq_true rfl) rfl rfl ?_
      refine co_goto (tgt := 186) dX11_keep_215 rfl ?_
      refine co_iload_n dX11_keep_186 rfl ?_
      refine co_iconst dX11_keep_187 ?_
      refine co_icmp_ge (tgt := 218) dX11_keep_188 rfl (by omega) (by omega) (fun c188_1 => ?_) (fun c188_1 => ?_)
      · exact absurd c188_1 (by omega)
      refine co_aload_n dX11_keep_191 rfl ?_
      refine r_getR dX11_keep_192 hM.ob hM.r_a ?_
      try simp (disch := omega) only [hI_sA_s, hI_sA_n, sI_sA, kP_lt]
      refine co_iload_n dX11_keep_195 rfl ?_
      refine co_bipush (z := 23) dX11_keep_196 rfl ?_
      refine co_iadd dX11_keep_198 ?_
      refine co_iconst dX11_keep_199 ?_
      refine co_iload_n dX11_keep_200 rfl ?_
      refine co_imul dX11_keep_201 ?_
      refine co_iadd dX11_keep_202 ?_
      refine co_iload_n dX11_keep_203 rfl ?_
      refine co_iadd dX11_keep_204 ?_
      refine co_aload_n dX11_keep_205 rfl ?_
      refine co_iload_n dX11_keep_206 rfl ?_
      refine co_iload_n dX11_keep_207 rfl ?_
      refine c_vI dX11_keep_208 (ev_X11_of hM (by omega)) (by decide) hM.ob rfl rfl (Nat.le_of_ble_eq_true rfl) ?_
      try simp (disch := omega) only [hI_sA_s, hI_sA_n, sI_sA, kP_lt]
      refine r_iast dX11_keep_211 hM.q_a (by omega) ?_
      try simp (disch := omega) only [hI_sA_s, hI_sA_n, sI_sA, kP_lt]
      refine s_iinc (ls' := [_, _, _, _]) dX11_keep_212 rfl (Nat.le_of_ble_eq_true rfl) rfl rfl ?_
      refine co_goto (tgt := 186) dX11_keep_215 rfl ?_
      refine co_iload_n dX11_keep_186 rfl ?_
      refine co_iconst dX11_keep_187 ?_
      refine co_icmp_ge (tgt := 218) dX11_keep_188 rfl (by omega) (by omega) (fun c188_2 => ?_) (fun c188_2 => ?_)
      rotate_left
      · exact absurd c188_2 (by omega)
      refine s_iinc (ls' := [_, _, _, _]) dX11_keep_218 rfl (Nat.le_of_ble_eq_true rfl) rfl rfl ?_
      refine co_goto (tgt := 178) dX11_keep_221 rfl ?_
      have e0 : u1 (kP f x (23 + 2 * b)) (x + 23 + 2 * b + 0) (f (48 + 4 * b + 0)) = kP f x (23 + 2 * b + 1) := kP_s f (by omega) (by omega) rfl (by rw [kE_b f (by omega) (by omega)]; congr 1; omega)
      have e1 : u1 (kP f x (23 + 2 * b + 1)) (x + 23 + 2 * b + (0 + 1)) (f (48 + 4 * b + (0 + 1))) = kP f x (23 + 2 * (b + 1)) := kP_s f (by omega) (by omega) (by omega) (by rw [kE_b f (by omega) (by omega)]; congr 1)
      rw [e0, kP_lt f (by omega), e1]
      exact ih (b + 1) _ (by omega)
  have l2 : ∀ (n : Nat) (b : Int) (w8 : Option Value), 0 ≤ b ∧ b + n = 8 → Co G l mX11_keep 1 0 0 0 0 130 [some (.ref o), some (vI x), some (vI b), w8] [] (sA h (o + 1) (kP f x (7 + 2 * b))) (eV (sA h (o + 1) (u1 (kP f x 35) 4 (f 4 + 1)))) := by
    intro n
    induction n with
    | zero =>
      intro b w8 hb
      obtain rfl : b = 8 := by omega
      refine co_iload_n dX11_keep_130 rfl ?_
      refine co_bipush (z := 8) dX11_keep_131 rfl ?_
      refine co_icmp_ge (tgt := 176) dX11_keep_133 rfl (by omega) (by omega) (fun c133 => ?_) (fun c133 => ?_)
      rotate_left
      · exact absurd c133 (by omega)
      refine co_iconst dX11_keep_176 ?_
      refine s_istore_n (ls' := [_, _, _, _]) dX11_keep_177 (Nat.le_of_ble_eq_true rfl) rfl rfl ?_
      exact l3 6 0 _ (by omega)
    | succ n ih =>
      intro b w8 hb
      refine co_iload_n dX11_keep_130 rfl ?_
      refine co_bipush (z := 8) dX11_keep_131 rfl ?_
      refine co_icmp_ge (tgt := 176) dX11_keep_133 rfl (by omega) (by omega) (fun c133 => ?_) (fun c133 => ?_)
      · exact absurd c133 (by omega)
      refine co_iconst dX11_keep_136 ?_
      refine s_istore_n (ls' := [_, _, _, _]) dX11_keep_137 (Nat.le_of_ble_eq_true rfl) rfl rfl ?_
      refine co_iload_n dX11_keep_138 rfl ?_
      refine co_iconst dX11_keep_139 ?_
      refine co_icmp_ge (tgt := 170) dX11_keep_140 rfl (by omega) (by omega) (fun c140_0 => ?_) (fun c140_0 => ?_)
      · exact absurd c140_0 (by omega)
      refine co_aload_n dX11_keep_143 rfl ?_
      refine r_getR dX11_keep_144 hM.ob hM.r_a ?_
      try simp (disch := omega) only [hI_sA_s, hI_sA_n, sI_sA, kP_lt]
      refine co_iload_n dX11_keep_147 rfl ?_
      refine co_bipush (z := 7) dX11_keep_148 rfl ?_
      refine co_iadd dX11_keep_150 ?_
      refine co_iconst dX11_keep_151 ?_
      refine co_iload_n dX11_keep_152 rfl ?_
      refine co_imul dX11_keep_153 ?_
      refine co_iadd dX11_keep_154 ?_
      refine co_iload_n dX11_keep_155 rfl ?_
      refine co_iadd dX11_keep_156 ?_
      refine co_aload_n dX11_keep_157 rfl ?_
      refine co_iload_n dX11_keep_158 rfl ?_
      refine co_iload_n dX11_keep_159 rfl ?_
      refine c_vI dX11_keep_160 (ev_X11_get hM (by omega)) (by decide) hM.ob rfl rfl (Nat.le_of_ble_eq_true rfl) ?_
      try simp (disch := omega) only [hI_sA_s, hI_sA_n, sI_sA, kP_lt]
      refine r_iast dX11_keep_163 hM.q_a (by omega) ?_
      try simp (disch := omega) only [hI_sA_s, hI_sA_n, sI_sA, kP_lt]
      refine s_iinc (ls' := [_, _, _, _]) dX11_keep_164 rfl (Nat.le_of_ble_eq_true rfl) rfl rfl ?_
      refine co_goto (tgt := 138) dX11_keep_167 rfl ?_
      refine co_iload_n dX11_keep_138 rfl ?_
      refine co_iconst dX11_keep_139 ?_
      refine co_icmp_ge (tgt := 170) dX11_keep_140 rfl (by omega) (by omega) (fun c140_1 => ?_) (fun c140_1 => ?_)
      · exact absurd c140_1 (by omega)
      refine co_aload_n dX11_keep_143 rfl ?_
      refine r_getR dX11_keep_144 hM.ob hM.r_a ?_
      try simp (disch := omega) only [hI_sA_s, hI_sA_n, sI_sA, kP_lt]
      refine co_iload_n dX11_keep_147 rfl ?_
      refine co_bipush (z := 7) dX11_keep_148 rfl ?_
      refine co_iadd dX11_keep_150 ?_
      refine co_iconst dX11_keep_151 ?_
      refine co_iload_n dX11_keep_152 rfl ?_
      refine co_imul dX11_keep_153 ?_
      refine co_iadd dX11_keep_154 ?_
      refine co_iload_n dX11_keep_155 rfl ?_
      refine co_iadd dX11_keep_156 ?_
      refine co_aload_n dX11_keep_157 rfl ?_
      refine co_iload_n dX11_keep_158 rfl ?_
      refine co_iload_n dX11_keep_159 rfl ?_
      refine c_vI dX11_keep_160 (ev_X11_get hM (by omega)) (by decide) hM.ob rfl rfl (Nat.le_of_ble_eq_true rfl) ?_
      try simp (disch := omega) only [hI_sA_s, hI_sA_n, sI_sA, kP_lt]
      refine r_iast dX11_keep_163 hM.q_a (by omega) ?_
      try simp (disch := omega) only [hI_sA_s, hI_sA_n, sI_sA, kP_lt]
      refine s_iinc (ls' := [_, _, _, _]) dX11_keep_164 rfl (Nat.le_of_ble_eq_true rfl) rfl rfl ?_
      refine co_goto (tgt := 138) dX11_keep_167 rfl ?_
      refine co_iload_n dX11_keep_138 rfl ?_
      refine co_iconst dX11_keep_139 ?_
      refine co_icmp_ge (tgt := 170) dX11_keep_140 rfl (by omega) (by omega) (fun c140_2 => ?_) (fun c140_2 => ?_)
      rotate_left
      · exact absurd c140_2 (by omega)
      refine s_iinc (ls' := [_, _, _, _]) dX11_keep_170 rfl (Nat.le_of_ble_eq_true rfl) rfl rfl ?_
      refine co_goto (tgt := 130) dX11_keep_173 rfl ?_
      have e0 : u1 (kP f x (7 + 2 * b)) (x + 7 + 2 * b + 0) (f (16 + 4 * b + 0)) = kP f x (7 + 2 * b + 1) := kP_s f (by omega) (by omega) rfl (by rw [kE_h f (by omega) (by omega)]; congr 1; omega)
      have e1 : u1 (kP f x (7 + 2 * b + 1)) (x + 7 + 2 * b + (0 + 1)) (f (16 + 4 * b + (0 + 1))) = kP f x (7 + 2 * (b + 1)) := kP_s f (by omega) (by omega) (by omega) (by rw [kE_h f (by omega) (by omega)]; congr 1)
      rw [e0, kP_lt f (by omega), e1]
      exact ih (b + 1) _ (by omega)
  have l1 : ∀ (n : Nat) (b : Int), 0 ≤ b ∧ b + n = 5 → Co G l mX11_keep 1 0 0 0 0 98 [some (.ref o), some (vI x), some (vI b), w8] [] (sA h (o + 1) (kP f x (2 + b))) (eV (sA h (o + 1) (u1 (kP f x 35) 4 (f 4 + 1)))) := by
    intro n
    induction n with
    | zero =>
      intro b hb
      obtain rfl : b = 5 := by omega
      refine co_iload_n dX11_keep_98 rfl ?_
      refine co_iconst dX11_keep_99 ?_
      refine co_icmp_ge (tgt := 128) dX11_keep_100 rfl (by omega) (by omega) (fun c100 => ?_) (fun c100 => ?_)
      rotate_left
      · exact absurd c100 (by omega)
      refine co_iconst dX11_keep_128 ?_
      refine s_istore_n (ls' := [_, _, _, _]) dX11_keep_129 (Nat.le_of_ble_eq_true rfl) rfl rfl ?_
      exact l2 8 0 _ (by omega)
    | succ n ih =>
      intro b hb
      refine co_iload_n dX11_keep_98 rfl ?_
      refine co_iconst dX11_keep_99 ?_
      refine co_icmp_ge (tgt := 128) dX11_keep_100 rfl (by omega) (by omega) (fun c100 => ?_) (fun c100 => ?_)
      · exact absurd c100 (by omega)
      refine co_aload_n dX11_keep_103 rfl ?_
      refine r_getR dX11_keep_104 hM.ob hM.r_a ?_
      try simp (disch := omega) only [hI_sA_s, hI_sA_n, sI_sA, kP_lt]
      refine co_iload_n dX11_keep_107 rfl ?_
      refine co_iconst dX11_keep_108 ?_
      refine co_iadd dX11_keep_109 ?_
      refine co_iload_n dX11_keep_110 rfl ?_
      refine co_iadd dX11_keep_111 ?_
      refine co_aload_n dX11_keep_112 rfl ?_
      refine r_getR dX11_keep_113 hM.ob hM.r_a ?_
      try simp (disch := omega) only [hI_sA_s, hI_sA_n, sI_sA, kP_lt]
      refine co_bipush (z := 10) dX11_keep_116 rfl ?_
      refine co_iload_n dX11_keep_118 rfl ?_
      refine co_iadd dX11_keep_119 ?_
      refine r_iald dX11_keep_120 hM.q_a (by omega) ?_
      try simp (disch := omega) only [hI_sA_s, hI_sA_n, sI_sA, kP_lt]
      refine r_iast dX11_keep_121 hM.q_a (by omega) ?_
      try simp (disch := omega) only [hI_sA_s, hI_sA_n, sI_sA, kP_lt]
      refine s_iinc (ls' := [_, _, _, _]) dX11_keep_122 rfl (Nat.le_of_ble_eq_true rfl) rfl rfl ?_
      refine co_goto (tgt := 98) dX11_keep_125 rfl ?_
      rw [kP_s f (c' := 2 + (b + 1)) (by omega) (by omega) (by omega) (kE_m f (by omega))]
      exact ih (b + 1) (by omega)
  have e00 : sA h (o + 1) f = sA h (o + 1) (kP f x 0) := by rw [kP_0]
  refine nt_fig_at e00 ?_
  refine co_aload_n dX11_keep_70 rfl ?_
  refine r_getR dX11_keep_71 hM.ob hM.r_a ?_
  try simp (disch := omega) only [hI_sA_s, hI_sA_n, sI_sA, kP_lt]
  refine co_iload_n dX11_keep_74 rfl ?_
  refine co_aload_n dX11_keep_75 rfl ?_
  refine r_getR dX11_keep_76 hM.ob hM.r_a ?_
  try simp (disch := omega) only [hI_sA_s, hI_sA_n, sI_sA, kP_lt]
  refine co_iconst dX11_keep_79 ?_
  refine r_iald dX11_keep_80 hM.q_a (by omega) ?_
  try simp (disch := omega) only [hI_sA_s, hI_sA_n, sI_sA, kP_lt]
  refine r_iast dX11_keep_81 hM.q_a (by omega) ?_
  try simp (disch := omega) only [hI_sA_s, hI_sA_n, sI_sA, kP_lt]
  refine co_aload_n dX11_keep_82 rfl ?_
  refine r_getR dX11_keep_83 hM.ob hM.r_a ?_
  try simp (disch := omega) only [hI_sA_s, hI_sA_n, sI_sA, kP_lt]
  refine co_iload_n dX11_keep_86 rfl ?_
  refine co_iconst dX11_keep_87 ?_
  refine co_iadd dX11_keep_88 ?_
  refine co_aload_n dX11_keep_89 rfl ?_
  refine r_getR dX11_keep_90 hM.ob hM.r_a ?_
  try simp (disch := omega) only [hI_sA_s, hI_sA_n, sI_sA, kP_lt]
  refine co_iconst dX11_keep_93 ?_
  refine r_iald dX11_keep_94 hM.q_a (by omega) ?_
  try simp (disch := omega) only [hI_sA_s, hI_sA_n, sI_sA, kP_lt]
  refine r_iast dX11_keep_95 hM.q_a (by omega) ?_
  try simp (disch := omega) only [hI_sA_s, hI_sA_n, sI_sA, kP_lt]
  refine co_iconst dX11_keep_96 ?_
  refine s_istore_n (ls' := [_, _, _, _]) dX11_keep_97 (Nat.le_of_ble_eq_true rfl) rfl rfl ?_
  have e0 : u1 (kP f x 0) x (f 0) = kP f x 1 := kP_s f (by omega) (by omega) (by omega) rfl
  have e1 : u1 (kP f x 1) (x + 1) (f 1) = kP f x 2 := kP_s f (by omega) (by omega) (by omega) rfl
  rw [e0, kP_lt f (by omega), e1]
  exact l1 5 0 (by omega)
set_option maxRecDepth 20000 in
theorem ev_X11_keep {G : gG} {l : Launch} {h : ph} {o : Nat} (hM : isM h o) (hA : IA (hI h (o + 1))) : Ev G l mX11_keep 1 0 0 [.ref o] h (eV (sA h (o + 1) (mKeep (hI h (o + 1))))) := by
  have h4 := hA.ns
  refine ev_of (ls := [some (.ref o), none, none, none]) (by decide +kernel) (Nat.le_of_ble_eq_true rfl) rfl ?_
  have e00 : h = sA h (o + 1) (hI h (o + 1)) := (sA_self h (o + 1)).symm
  have ls : ∀ (n : Nat) (i : Int), hI h (o + 1) 4 = 30 → 0 ≤ i ∧ i + n = 1015 → Co G l mX11_keep 1 0 0 0 0 13 [some (.ref o), some (vI i), none, none] [] (sA h (o + 1) (kSh (hI h (o + 1)) i)) (eV (sA h (o + 1) (mKeep (hI h (o + 1))))) := by
    intro n
    induction n with
    | zero =>
      intro i h30 hi
      obtain rfl : i = 1015 := by omega
      refine co_iload_n dX11_keep_13 rfl ?_
      refine co_sipush (z := 1015) dX11_keep_14 rfl ?_
      refine co_icmp_ge (tgt := 46) dX11_keep_17 rfl (by omega) (by omega) (fun c17 => ?_) (fun c17 => ?_)
      rotate_left
      · exact absurd c17 (by omega)
      refine co_aload_n dX11_keep_46 rfl ?_
      refine r_getR dX11_keep_47 hM.ob hM.r_a ?_
      try simp (disch := omega) only [hI_sA_s, hI_sA_n, sI_sA, kSh_lo, u1_s]
      refine co_iconst dX11_keep_50 ?_
      refine co_dup2 dX11_keep_51 rfl rfl ?_
      refine r_iald dX11_keep_52 hM.q_a (by omega) ?_
      try simp (disch := omega) only [hI_sA_s, hI_sA_n, sI_sA, kSh_lo, u1_s]
      refine co_iconst dX11_keep_53 ?_
      refine co_isub dX11_keep_54 ?_
      rw [h30]
      rw [show (30 : Int) - 1 = 29 from rfl]
      refine r_iast dX11_keep_55 hM.q_a (by omega) ?_
      try simp (disch := omega) only [hI_sA_s, hI_sA_n, sI_sA, kSh_lo, u1_s]
      refine co_sipush (z := 130) dX11_keep_56 rfl ?_
      refine co_bipush (z := 35) dX11_keep_59 rfl ?_
      refine co_aload_n dX11_keep_61 rfl ?_
      refine r_getR dX11_keep_62 hM.ob hM.r_a ?_
      try simp (disch := omega) only [hI_sA_s, hI_sA_n, sI_sA, kSh_lo, u1_s]
      refine co_iconst dX11_keep_65 ?_
      refine r_iald dX11_keep_66 hM.q_a (by omega) ?_
      try simp (disch := omega) only [hI_sA_s, hI_sA_n, sI_sA, kSh_lo, u1_s]
      refine co_imul dX11_keep_67 ?_
      refine co_iadd dX11_keep_68 ?_
      refine s_istore_n (ls' := [_, _, _, _]) dX11_keep_69 (Nat.le_of_ble_eq_true rfl) rfl rfl ?_
      have hkf : kF (hI h (o + 1)) = u1 (kSh (hI h (o + 1)) 1015) 4 29 := by unfold kF; rw [if_pos h30]
      have hb := keep_b (G := G) (l := l) (h := h) (o := o) (f := u1 (kSh (hI h (o + 1)) 1015) 4 29) (w9 := none) (w8 := none) hM (x := 130 + 35 * 29) (by rw [u1_s]) (by rw [u1_s]; omega)
      rw [mKeep, hkf, u1_s]
      rw [u1_s] at hb
      exact hb
    | succ n ih =>
      intro i h30 hi
      refine co_iload_n dX11_keep_13 rfl ?_
      refine co_sipush (z := 1015) dX11_keep_14 rfl ?_
      refine co_icmp_ge (tgt := 46) dX11_keep_17 rfl (by omega) (by omega) (fun c17 => ?_) (fun c17 => ?_)
      · exact absurd c17 (by omega)
      refine co_aload_n dX11_keep_20 rfl ?_
      refine r_getR dX11_keep_21 hM.ob hM.r_a ?_
      try simp (disch := omega) only [hI_sA_s, hI_sA_n, sI_sA, kSh_hi]
      refine co_sipush (z := 130) dX11_keep_24 rfl ?_
      refine co_iload_n dX11_keep_27 rfl ?_
      refine co_iadd dX11_keep_28 ?_
      refine co_aload_n dX11_keep_29 rfl ?_
      refine r_getR dX11_keep_30 hM.ob hM.r_a ?_
      try simp (disch := omega) only [hI_sA_s, hI_sA_n, sI_sA, kSh_hi]
      refine co_sipush (z := 165) dX11_keep_33 rfl ?_
      refine co_iload_n dX11_keep_36 rfl ?_
      refine co_iadd dX11_keep_37 ?_
      refine r_iald dX11_keep_38 hM.q_a (by omega) ?_
      try simp (disch := omega) only [hI_sA_s, hI_sA_n, sI_sA, kSh_hi]
      refine r_iast dX11_keep_39 hM.q_a (by omega) ?_
      try simp (disch := omega) only [hI_sA_s, hI_sA_n, sI_sA, kSh_hi]
      refine s_iinc (ls' := [_, _, _, _]) dX11_keep_40 rfl (Nat.le_of_ble_eq_true rfl) rfl rfl ?_
      refine co_goto (tgt := 13) dX11_keep_43 rfl ?_
      rw [kSh_s _ (by omega)]
      exact ih (i + 1) h30 (by omega)
  refine co_aload_n dX11_keep_0 rfl ?_
  refine r_getR dX11_keep_1 hM.ob hM.r_a ?_
  refine co_iconst dX11_keep_4 ?_
  refine r_iald dX11_keep_5 hM.q_a (by omega) ?_
  refine co_bipush (z := 30) dX11_keep_6 rfl ?_
  refine co_icmp_ne (tgt := 56) dX11_keep_8 rfl (by omega) (by omega) (fun c8 => ?_) (fun c8 => ?_)
  · refine co_sipush (z := 130) dX11_keep_56 rfl ?_
    refine co_bipush (z := 35) dX11_keep_59 rfl ?_
    refine co_aload_n dX11_keep_61 rfl ?_
    refine r_getR dX11_keep_62 hM.ob hM.r_a ?_
    refine co_iconst dX11_keep_65 ?_
    refine r_iald dX11_keep_66 hM.q_a (by omega) ?_
    refine co_imul dX11_keep_67 ?_
    refine co_iadd dX11_keep_68 ?_
    refine s_istore_n (ls' := [_, _, _, _]) dX11_keep_69 (Nat.le_of_ble_eq_true rfl) rfl rfl ?_
    have hkf : kF (hI h (o + 1)) = hI h (o + 1) := by unfold kF; rw [if_neg c8]
    have hb := keep_b (G := G) (l := l) (h := h) (o := o) (f := hI h (o + 1)) (w9 := none) (w8 := none) hM (x := 130 + 35 * hI h (o + 1) 4) rfl (by omega)
    rw [mKeep, hkf]
    refine nt_fig_at e00 ?_
    exact hb
  · refine co_iconst dX11_keep_11 ?_
    refine s_istore_n (ls' := [_, _, _, _]) dX11_keep_12 (Nat.le_of_ble_eq_true rfl) rfl rfl ?_
    refine nt_fig_at (h' := sA h (o + 1) (kSh (hI h (o + 1)) 0)) (by rw [kSh_0, sA_self]) ?_
    exact ls 1015 0 c8 (by omega)
