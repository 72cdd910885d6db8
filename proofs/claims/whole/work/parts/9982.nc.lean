-- ===== constructors =====
theorem Ob.fresh (h : ph) (ci : Nat) : Ob (sNew h (ci, 0)) (hN h) ci := ⟨Nat.lt_succ_self _, by rw [show hK (sNew h (ci, 0)) (hN h) = (ci, 0) from u2_s _ _ _]⟩
theorem Aq.mk {h : ph} {t : Nat} {n : Int} (hn : 0 ≤ n ∧ n ≤ 2147483647) : Aq (sNew h (100 + t, n)) (hN h) t n := ⟨⟨Nat.lt_succ_self _, u2_s _ _ _⟩, hn⟩
theorem Aq.new {h : ph} {q t : Nat} {n : Int} {k : Nat × Int} (ha : Aq h q t n) : Aq (sNew h k) q t n := ⟨⟨Nat.lt_succ_of_lt ha.1.1, by rw [show hK (sNew h k) q = hK h q from u2_n _ _ (Nat.ne_of_lt ha.1.1)]; exact ha.1.2⟩, ha.2⟩
theorem Aq.pR {h : ph} {q t : Nat} {n : Int} {o : Nat} {j : Int} {v : Option Nat} (ha : Aq h q t n) : Aq (sR h o j v) q t n := ha
theorem Aq.pI {h : ph} {q t : Nat} {n : Int} {o : Nat} {j v : Int} (ha : Aq h q t n) : Aq (sI h o j v) q t n := ha
theorem pA_s {h : ph} {s : Nat} {j : Int} {k : Nat × Int} {v : Option Nat} (hs : s < hN h) : hR (sR (sNew h k) s j v) s = u1 (hR h s) j v := by
  rw [hR_sR_s, show hR (sNew h k) s = hR h s from u2_n _ _ (Nat.ne_of_lt hs)]
/-- nothing -/
def hE : ph := (0, fun _ => (0, 0), fun _ _ => 0, fun _ _ => 0, fun _ _ => none)
def f5 (h : ph) (s : Nat) : ph := (sI (sR (sNew (sR (sNew (sR (sNew (sR (sNew (sR (sNew (sI (sR (sNew (sR (sNew h (100, 300)) s 0 (some (hN h + 0))) (100, 300)) s 1 (some (hN h + 1))) s 2 (0)) (100, 3)) s 3 (some (hN h + 2))) (100, 3)) s 4 (some (hN h + 3))) (100, 24)) s 5 (some (hN h + 4))) (100, 24)) s 6 (some (hN h + 5))) (100, 24)) s 7 (some (hN h + 6))) s 8 (0))
theorem f5_n (h : ph) (s : Nat) : hN (f5 h s) = hN h + 7 := rfl
theorem Ob.f5 {h : ph} {s o ci : Nat} (ho : Ob h o ci) : Ob (f5 h s) o ci := (Ob.pI (Ob.pR (Ob.new (Ob.pR (Ob.new (Ob.pR (Ob.new (Ob.pR (Ob.new (Ob.pR (Ob.new (Ob.pI (Ob.pR (Ob.new (Ob.pR (Ob.new ho))))))))))))))))
theorem ev_X5_init {G : gG} {l : Launch} {h : ph} {s : Nat} (ho : Ob h s 4) (hz : hN h ≤ 900000) : Ev G l mX5_init 1 7 678 [.ref s] h (eV (f5 h s)) := by
  refine ev_of (ls := [some (.ref s)]) (by decide +kernel) (Nat.le_of_ble_eq_true rfl) rfl ?_
  refine co_aload_n dX5_init_0 rfl ?_
  refine r_obj nX5_init_1 (by decide) (Nat.le_of_ble_eq_true rfl) ?_
  refine co_aload_n dX5_init_4 rfl ?_
  refine co_sipush (z := 300) dX5_init_5 rfl ?_
  refine r_newa' (cb := 6) (sb := 378) (n := 300) dX5_init_8 (by decide) (show hN h + 0 < 1000000 by omega) rfl rfl ?_
  refine r_putR dX5_init_10 (Ob.new ho) ?_
  refine co_aload_n dX5_init_13 rfl ?_
  refine co_sipush (z := 300) dX5_init_14 rfl ?_
  refine r_newa' (cb := 5) (sb := 78) (n := 300) dX5_init_17 (by decide) (show hN h + 1 < 1000000 by omega) rfl rfl ?_
  refine r_putR dX5_init_19 (Ob.new (Ob.pR (Ob.new ho))) ?_
  refine co_aload_n dX5_init_22 rfl ?_
  refine co_iconst dX5_init_23 ?_
  refine r_putI dX5_init_24 (Ob.pR (Ob.new (Ob.pR (Ob.new ho)))) ?_
  refine co_aload_n dX5_init_27 rfl ?_
  refine co_iconst dX5_init_28 ?_
  refine r_newa' (cb := 4) (sb := 75) (n := 3) dX5_init_29 (by decide) (show hN h + 2 < 1000000 by omega) rfl rfl ?_
  refine r_putR dX5_init_31 (Ob.new (Ob.pI (Ob.pR (Ob.new (Ob.pR (Ob.new ho)))))) ?_
  refine co_aload_n dX5_init_34 rfl ?_
  refine co_iconst dX5_init_35 ?_
  refine r_newa' (cb := 3) (sb := 72) (n := 3) dX5_init_36 (by decide) (show hN h + 3 < 1000000 by omega) rfl rfl ?_
  refine r_putR dX5_init_38 (Ob.new (Ob.pR (Ob.new (Ob.pI (Ob.pR (Ob.new (Ob.pR (Ob.new ho)))))))) ?_
  refine co_aload_n dX5_init_41 rfl ?_
  refine co_bipush (z := 24) dX5_init_42 rfl ?_
  refine r_newa' (cb := 2) (sb := 48) (n := 24) dX5_init_44 (by decide) (show hN h + 4 < 1000000 by omega) rfl rfl ?_
  refine r_putR dX5_init_46 (Ob.new (Ob.pR (Ob.new (Ob.pR (Ob.new (Ob.pI (Ob.pR (Ob.new (Ob.pR (Ob.new ho)))))))))) ?_
  refine co_aload_n dX5_init_49 rfl ?_
  refine co_bipush (z := 24) dX5_init_50 rfl ?_
  refine r_newa' (cb := 1) (sb := 24) (n := 24) dX5_init_52 (by decide) (show hN h + 5 < 1000000 by omega) rfl rfl ?_
  refine r_putR dX5_init_54 (Ob.new (Ob.pR (Ob.new (Ob.pR (Ob.new (Ob.pR (Ob.new (Ob.pI (Ob.pR (Ob.new (Ob.pR (Ob.new ho)))))))))))) ?_
  refine co_aload_n dX5_init_57 rfl ?_
  refine co_bipush (z := 24) dX5_init_58 rfl ?_
  refine r_newa' (cb := 0) (sb := 0) (n := 24) dX5_init_60 (by decide) (show hN h + 6 < 1000000 by omega) rfl rfl ?_
  refine r_putR dX5_init_62 (Ob.new (Ob.pR (Ob.new (Ob.pR (Ob.new (Ob.pR (Ob.new (Ob.pR (Ob.new (Ob.pI (Ob.pR (Ob.new (Ob.pR (Ob.new ho)))))))))))))) ?_
  refine co_aload_n dX5_init_65 rfl ?_
  refine co_iconst dX5_init_66 ?_
  refine r_putI dX5_init_67 (Ob.pR (Ob.new (Ob.pR (Ob.new (Ob.pR (Ob.new (Ob.pR (Ob.new (Ob.pR (Ob.new (Ob.pI (Ob.pR (Ob.new (Ob.pR (Ob.new ho))))))))))))))) ?_
  exact co_return dX5_init_70 rfl ⟨rfl, rfl⟩
def f7 (h : ph) (s : Nat) : ph := (sI (sI (sI (sI (sI (sI (sI (sI (sI (sR (sNew (sR (sNew (sR (sNew h (100, 125)) s 0 (some (hN h + 0))) (100, 8)) s 1 (some (hN h + 1))) (100, 6)) s 2 (some (hN h + 2))) s 3 (3)) (hN h + 0) 22 (-1)) (hN h + 0) 23 (-1)) (hN h + 0) 24 (-1)) (hN h + 0) 25 (-1)) (hN h + 0) 26 (-1)) (hN h + 0) 27 (-1)) (hN h + 0) 29 (9)) (hN h + 0) 31 (151))
theorem f7_n (h : ph) (s : Nat) : hN (f7 h s) = hN h + 3 := rfl
theorem Ob.f7 {h : ph} {s o ci : Nat} (ho : Ob h o ci) : Ob (f7 h s) o ci := (Ob.pI (Ob.pI (Ob.pI (Ob.pI (Ob.pI (Ob.pI (Ob.pI (Ob.pI (Ob.pI (Ob.pR (Ob.new (Ob.pR (Ob.new (Ob.pR (Ob.new ho)))))))))))))))
theorem ev_X7_init {G : gG} {l : Launch} {h : ph} {s : Nat} (ho : Ob h s 6) (hz : hN h ≤ 900000) : Ev G l mX7_init 1 3 139 [.ref s] h (eV (f7 h s)) := by
  have r0 : hR (sR (sNew (sR (sNew (sR (sNew h (100, 125)) s 0 (some (hN h + 0))) (100, 8)) s 1 (some (hN h + 1))) (100, 6)) s 2 (some (hN h + 2))) s 0 = some (hN h + 0) := by rw [pA_s (show s < hN h + 2 by have := ho.1; omega), u1_n _ _ (by decide), pA_s (show s < hN h + 1 by have := ho.1; omega), u1_n _ _ (by decide), pA_s ho.1, u1_s]
  refine ev_of (ls := [some (.ref s), none]) (by decide +kernel) (Nat.le_of_ble_eq_true rfl) rfl ?_
  refine co_aload_n dX7_init_0 rfl ?_
  refine r_obj nX7_init_1 (by decide) (Nat.le_of_ble_eq_true rfl) ?_
  refine co_aload_n dX7_init_4 rfl ?_
  refine co_bipush (z := 125) dX7_init_5 rfl ?_
  refine r_newa' (cb := 2) (sb := 14) (n := 125) dX7_init_7 (by decide) (show hN h + 0 < 1000000 by omega) rfl rfl ?_
  refine r_putR dX7_init_9 (Ob.new ho) ?_
  refine co_aload_n dX7_init_12 rfl ?_
  refine co_bipush (z := 8) dX7_init_13 rfl ?_
  refine r_newa' (cb := 1) (sb := 6) (n := 8) dX7_init_15 (by decide) (show hN h + 1 < 1000000 by omega) rfl rfl ?_
  refine r_putR dX7_init_17 (Ob.new (Ob.pR (Ob.new ho))) ?_
  refine co_aload_n dX7_init_20 rfl ?_
  refine co_bipush (z := 6) dX7_init_21 rfl ?_
  refine r_newa' (cb := 0) (sb := 0) (n := 6) dX7_init_23 (by decide) (show hN h + 2 < 1000000 by omega) rfl rfl ?_
  refine r_putR dX7_init_25 (Ob.new (Ob.pR (Ob.new (Ob.pR (Ob.new ho))))) ?_
  refine co_aload_n dX7_init_28 rfl ?_
  refine co_iconst dX7_init_29 ?_
  refine r_putI dX7_init_30 (Ob.pR (Ob.new (Ob.pR (Ob.new (Ob.pR (Ob.new ho)))))) ?_
  refine co_iconst dX7_init_33 ?_
  refine s_istore_n (ls' := [_, _]) dX7_init_34 (Nat.le_of_ble_eq_true rfl) rfl rfl ?_
  refine co_iload_n dX7_init_35 rfl ?_
  refine co_bipush (z := 6) dX7_init_36 rfl ?_
  refine co_icmp_ge (tgt := 57) dX7_init_38 rfl (by decide) (by decide) (fun c9 => ?_) (fun c9 => ?_)
  · exact absurd c9 (by decide)
  refine co_aload_n dX7_init_41 rfl ?_
  refine r_getR (q := (hN h + 0)) dX7_init_42 (Ob.pI (Ob.pR (Ob.new (Ob.pR (Ob.new (Ob.pR (Ob.new ho))))))) r0 ?_
  refine co_bipush (z := 22) dX7_init_45 rfl ?_
  refine co_iload_n dX7_init_47 rfl ?_
  refine co_iadd dX7_init_48 ?_
  refine co_iconst dX7_init_49 ?_
  refine r_iast (n := 125) dX7_init_50 (Aq.pI (Aq.pR (Aq.new (Aq.pR (Aq.new (Aq.pR (Aq.mk (t := 0) (n := 125) (by decide)))))))) (by decide) ?_
  refine s_iinc (ls' := [_, _]) dX7_init_51 rfl (Nat.le_of_ble_eq_true rfl) rfl rfl ?_
  refine co_goto (tgt := 35) dX7_init_54 rfl ?_
  refine co_iload_n dX7_init_35 rfl ?_
  refine co_bipush (z := 6) dX7_init_36 rfl ?_
  refine co_icmp_ge (tgt := 57) dX7_init_38 rfl (by decide) (by decide) (fun c9 => ?_) (fun c9 => ?_)
  · exact absurd c9 (by decide)
  refine co_aload_n dX7_init_41 rfl ?_
  refine r_getR (q := (hN h + 0)) dX7_init_42 (Ob.pI (Ob.pI (Ob.pR (Ob.new (Ob.pR (Ob.new (Ob.pR (Ob.new ho)))))))) r0 ?_
  refine co_bipush (z := 22) dX7_init_45 rfl ?_
  refine co_iload_n dX7_init_47 rfl ?_
  refine co_iadd dX7_init_48 ?_
  refine co_iconst dX7_init_49 ?_
  refine r_iast (n := 125) dX7_init_50 (Aq.pI (Aq.pI (Aq.pR (Aq.new (Aq.pR (Aq.new (Aq.pR (Aq.mk (t := 0) (n := 125) (by decide))))))))) (by decide) ?_
  refine s_iinc (ls' := [_, _]) dX7_init_51 rfl (Nat.le_of_ble_eq_true rfl) rfl rfl ?_
  refine co_goto (tgt := 35) dX7_init_54 rfl ?_
  refine co_iload_n dX7_init_35 rfl ?_
  refine co_bipush (z := 6) dX7_init_36 rfl ?_
  refine co_icmp_ge (tgt := 57) dX7_init_38 rfl (by decide) (by decide) (fun c9 => ?_) (fun c9 => ?_)
  · exact absurd c9 (by decide)
  refine co_aload_n dX7_init_41 rfl ?_
  refine r_getR (q := (hN h + 0)) dX7_init_42 (Ob.pI (Ob.pI (Ob.pI (Ob.pR (Ob.new (Ob.pR (Ob.new (Ob.pR (Ob.new ho))))))))) r0 ?_
  refine co_bipush (z := 22) dX7_init_45 rfl ?_
  refine co_iload_n dX7_init_47 rfl ?_
  refine co_iadd dX7_init_48 ?_
  refine co_iconst dX7_init_49 ?_
  refine r_iast (n := 125) dX7_init_50 (Aq.pI (Aq.pI (Aq.pI (Aq.pR (Aq.new (Aq.pR (Aq.new (Aq.pR (Aq.mk (t := 0) (n := 125) (by decide)))))))))) (by decide) ?_
  refine s_iinc (ls' := [_, _]) dX7_init_51 rfl (Nat.le_of_ble_eq_true rfl) rfl rfl ?_
  refine co_goto (tgt := 35) dX7_init_54 rfl ?_
  refine co_iload_n dX7_init_35 rfl ?_
  refine co_bipush (z := 6) dX7_init_36 rfl ?_
  refine co_icmp_ge (tgt := 57) dX7_init_38 rfl (by decide) (by decide) (fun c9 => ?_) (fun c9 => ?_)
  · exact absurd c9 (by decide)
  refine co_aload_n dX7_init_41 rfl ?_
  refine r_getR (q := (hN h + 0)) dX7_init_42 (Ob.pI (Ob.pI (Ob.pI (Ob.pI (Ob.pR (Ob.new (Ob.pR (Ob.new (Ob.pR (Ob.new ho)))))))))) r0 ?_
  refine co_bipush (z := 22) dX7_init_45 rfl ?_
  refine co_iload_n dX7_init_47 rfl ?_
  refine co_iadd dX7_init_48 ?_
  refine co_iconst dX7_init_49 ?_
  refine r_iast (n := 125) dX7_init_50 (Aq.pI (Aq.pI (Aq.pI (Aq.pI (Aq.pR (Aq.new (Aq.pR (Aq.new (Aq.pR (Aq.mk (t := 0) (n := 125) (by decide))))))))))) (by decide) ?_
  refine s_iinc (ls' := [_, _]) dX7_init_51 rfl (Nat.le_of_ble_eq_true rfl) rfl rfl ?_
  refine co_goto (tgt := 35) dX7_init_54 rfl ?_
  refine co_iload_n dX7_init_35 rfl ?_
  refine co_bipush (z := 6) dX7_init_36 rfl ?_
  refine co_icmp_ge (tgt := 57) dX7_init_38 rfl (by decide) (by decide) (fun c9 => ?_) (fun c9 => ?_)
  · exact absurd c9 (by decide)
  refine co_aload_n dX7_init_41 rfl ?_
  refine r_getR (q := (hN h + 0)) dX7_init_42 (Ob.pI (Ob.pI (Ob.pI (Ob.pI (Ob.pI (Ob.pR (Ob.new (Ob.pR (Ob.new (Ob.pR (Ob.new ho))))))))))) r0 ?_
  refine co_bipush (z := 22) dX7_init_45 rfl ?_
  refine co_iload_n dX7_init_47 rfl ?_
  refine co_iadd dX7_init_48 ?_
  refine co_iconst dX7_init_49 ?_
  refine r_iast (n := 125) dX7_init_50 (Aq.pI (Aq.pI (Aq.pI (Aq.pI (Aq.pI (Aq.pR (Aq.new (Aq.pR (Aq.new (Aq.pR (Aq.mk (t := 0) (n := 125) (by decide)))))))))))) (by decide) ?_
  refine s_iinc (ls' := [_, _]) dX7_init_51 rfl (Nat.le_of_ble_eq_true rfl) rfl rfl ?_
  refine co_goto (tgt := 35) dX7_init_54 rfl ?_
  refine co_iload_n dX7_init_35 rfl ?_
  refine co_bipush (z := 6) dX7_init_36 rfl ?_
  refine co_icmp_ge (tgt := 57) dX7_init_38 rfl (by decide) (by decide) (fun c9 => ?_) (fun c9 => ?_)
  · exact absurd c9 (by decide)
  refine co_aload_n dX7_init_41 rfl ?_
  refine r_getR (q := (hN h + 0)) dX7_init_42 (Ob.pI (Ob.pI (Ob.pI (Ob.pI (Ob.pI (Ob.pI (Ob.pR (Ob.new (Ob.pR (Ob.new (Ob.pR (Ob.new ho)))))))))))) r0 ?_
  refine co_bipush (z := 22) dX7_init_45 rfl ?_
  refine co_iload_n dX7_init_47 rfl ?_
  refine co_iadd dX7_init_48 ?_
  refine co_iconst dX7_init_49 ?_
  refine r_iast (n := 125) dX7_init_50 (Aq.pI (Aq.pI (Aq.pI (Aq.pI (Aq.pI (Aq.pI (Aq.pR (Aq.new (Aq.pR (Aq.new (Aq.pR (Aq.mk (t := 0) (n := 125) (by decide))))))))))))) (by decide) ?_
  refine s_iinc (ls' := [_, _]) dX7_init_51 rfl (Nat.le_of_ble_eq_true rfl) rfl rfl ?_
  refine co_goto (tgt := 35) dX7_init_54 rfl ?_
  refine co_iload_n dX7_init_35 rfl ?_
  refine co_bipush (z := 6) dX7_init_36 rfl ?_
  refine co_icmp_ge (tgt := 57) dX7_init_38 rfl (by decide) (by decide) (fun c9 => ?_) (fun c9 => ?_)
  rotate_left
  · exact absurd c9 (by decide)
  refine co_aload_n dX7_init_57 rfl ?_
  refine r_getR (q := (hN h + 0)) dX7_init_58 (Ob.pI (Ob.pI (Ob.pI (Ob.pI (Ob.pI (Ob.pI (Ob.pI (Ob.pR (Ob.new (Ob.pR (Ob.new (Ob.pR (Ob.new ho))))))))))))) r0 ?_
  refine co_bipush (z := 29) dX7_init_61 rfl ?_
  refine co_bipush (z := 9) dX7_init_63 rfl ?_
  refine r_iast (n := 125) dX7_init_65 (Aq.pI (Aq.pI (Aq.pI (Aq.pI (Aq.pI (Aq.pI (Aq.pI (Aq.pR (Aq.new (Aq.pR (Aq.new (Aq.pR (Aq.mk (t := 0) (n := 125) (by decide)))))))))))))) (by decide) ?_
  refine co_aload_n dX7_init_66 rfl ?_
  refine r_getR (q := (hN h + 0)) dX7_init_67 (Ob.pI (Ob.pI (Ob.pI (Ob.pI (Ob.pI (Ob.pI (Ob.pI (Ob.pI (Ob.pR (Ob.new (Ob.pR (Ob.new (Ob.pR (Ob.new ho)))))))))))))) r0 ?_
  refine co_bipush (z := 31) dX7_init_70 rfl ?_
  refine co_sipush (z := 151) dX7_init_72 rfl ?_
  refine r_iast (n := 125) dX7_init_75 (Aq.pI (Aq.pI (Aq.pI (Aq.pI (Aq.pI (Aq.pI (Aq.pI (Aq.pI (Aq.pR (Aq.new (Aq.pR (Aq.new (Aq.pR (Aq.mk (t := 0) (n := 125) (by decide))))))))))))))) (by decide) ?_
  exact co_return dX7_init_76 rfl ⟨rfl, rfl⟩
def f6 (h : ph) (s : Nat) : ph := (sI (sI (sR (sRw h 30 125) s 0 (some (hN h + 0))) s 1 (0)) s 2 (0))
theorem f6_n (h : ph) (s : Nat) : hN (f6 h s) = hN h + 31 := rfl
theorem Ob.f6 {h : ph} {s o ci : Nat} (ho : Ob h o ci) : Ob (f6 h s) o ci := (Ob.pI (Ob.pI (Ob.pR (Ob.rw ho))))
theorem ev_X6_init {G : gG} {l : Launch} {h : ph} {s : Nat} (ho : Ob h s 5) (hz : hN h ≤ 900000) : Ev G l mX6_init 1 31 3780 [.ref s] h (eV (f6 h s)) := by
  refine ev_of (ls := [some (.ref s)]) (by decide +kernel) (Nat.le_of_ble_eq_true rfl) rfl ?_
  refine co_aload_n dX6_init_0 rfl ?_
  refine r_obj nX6_init_1 (by decide) (Nat.le_of_ble_eq_true rfl) ?_
  refine co_aload_n dX6_init_4 rfl ?_
  refine co_bipush (z := 30) dX6_init_5 rfl ?_
  refine co_bipush (z := 125) dX6_init_7 rfl ?_
  refine r_mnew (cb := 0) (sb := 0) (n := 30) (m := 125) nX6_init_9 (by decide) (by decide) (show hN h + 0 + 1 + 30 ≤ 1000000 by omega) rfl rfl ?_
  refine r_putR dX6_init_13 (Ob.rw ho) ?_
  refine co_aload_n dX6_init_16 rfl ?_
  refine co_iconst dX6_init_17 ?_
  refine r_putI dX6_init_18 (Ob.pR (Ob.rw ho)) ?_
  refine co_aload_n dX6_init_21 rfl ?_
  refine co_iconst dX6_init_22 ?_
  refine r_putI dX6_init_23 (Ob.pI (Ob.pR (Ob.rw ho))) ?_
  exact co_return dX6_init_26 rfl ⟨rfl, rfl⟩
def f8 (h : ph) (s : Nat) (x : Int) : ph := (sI (sI (sR (sNew (sR (sNew (sR (sNew h (100, 8)) s 0 (some (hN h + 0))) (100, 8)) s 1 (some (hN h + 1))) (100, 8)) s 2 (some (hN h + 2))) s 4 (0)) s 3 ((min x 8)))
theorem f8_n (h : ph) (s : Nat) (x : Int) : hN (f8 h s x) = hN h + 3 := rfl
theorem Ob.f8 {h : ph} {s o ci : Nat} {x : Int} (ho : Ob h o ci) : Ob (f8 h s x) o ci := (Ob.pI (Ob.pI (Ob.pR (Ob.new (Ob.pR (Ob.new (Ob.pR (Ob.new ho))))))))
theorem ev_X8_init {G : gG} {l : Launch} {h : ph} {s : Nat} (ho : Ob h s 7) (hz : hN h ≤ 900000) {x : Int} (hx : 0 ≤ x ∧ x ≤ 1000) : Ev G l mX8_init 1 3 24 [.ref s, vI x] h (eV (f8 h s x)) := by
  refine ev_of (ls := [some (.ref s), some (vI x)]) (by decide +kernel) (Nat.le_of_ble_eq_true rfl) rfl ?_
  refine co_aload_n dX8_init_0 rfl ?_
  refine r_obj nX8_init_1 (by decide) (Nat.le_of_ble_eq_true rfl) ?_
  refine co_aload_n dX8_init_4 rfl ?_
  refine co_bipush (z := 8) dX8_init_5 rfl ?_
  refine r_newa' (cb := 2) (sb := 16) (n := 8) dX8_init_7 (by decide) (show hN h + 0 < 1000000 by omega) rfl rfl ?_
  refine r_putR dX8_init_9 (Ob.new ho) ?_
  refine co_aload_n dX8_init_12 rfl ?_
  refine co_bipush (z := 8) dX8_init_13 rfl ?_
  refine r_newa' (cb := 1) (sb := 8) (n := 8) dX8_init_15 (by decide) (show hN h + 1 < 1000000 by omega) rfl rfl ?_
  refine r_putR dX8_init_17 (Ob.new (Ob.pR (Ob.new ho))) ?_
  refine co_aload_n dX8_init_20 rfl ?_
  refine co_bipush (z := 8) dX8_init_21 rfl ?_
  refine r_newa' (cb := 0) (sb := 0) (n := 8) dX8_init_23 (by decide) (show hN h + 2 < 1000000 by omega) rfl rfl ?_
  refine r_putR dX8_init_25 (Ob.new (Ob.pR (Ob.new (Ob.pR (Ob.new ho))))) ?_
  refine co_aload_n dX8_init_28 rfl ?_
  refine co_iconst dX8_init_29 ?_
  refine r_putI dX8_init_30 (Ob.pR (Ob.new (Ob.pR (Ob.new (Ob.pR (Ob.new ho)))))) ?_
  refine co_aload_n dX8_init_33 rfl ?_
  refine co_iload_n dX8_init_34 rfl ?_
  refine co_bipush (z := 8) dX8_init_35 rfl ?_
  refine r_minI dX8_init_37 (by decide) (Nat.le_of_ble_eq_true rfl) (by omega) (by decide) ?_
  refine r_putI dX8_init_40 (Ob.pI (Ob.pR (Ob.new (Ob.pR (Ob.new (Ob.pR (Ob.new ho))))))) ?_
  exact co_return dX8_init_43 rfl ⟨rfl, rfl⟩
def f9 (h : ph) (s : Nat) : ph := (sI (sI (sR (f8 (sNew (sR (f8 (sNew (sR (f8 (sNew (sR (f8 (sNew (sR (f6 (sNew (sR (f7 (sNew h (6, 0)) (hN h + 0)) s 0 (some (hN h + 0))) (5, 0)) (hN h + 4)) s 1 (some (hN h + 4))) (7, 0)) (hN h + 36) 8) s 2 (some (hN h + 36))) (7, 0)) (hN h + 40) 6) s 3 (some (hN h + 40))) (7, 0)) (hN h + 44) 8) s 4 (some (hN h + 44))) (7, 0)) (hN h + 48) 8) s 5 (some (hN h + 48))) s 6 (0)) s 7 (-1))
theorem f9_n (h : ph) (s : Nat) : hN (f9 h s) = hN h + 52 := rfl
theorem Ob.f9 {h : ph} {s o ci : Nat} (ho : Ob h o ci) : Ob (f9 h s) o ci := (Ob.pI (Ob.pI (Ob.pR (Ob.f8 (Ob.new (Ob.pR (Ob.f8 (Ob.new (Ob.pR (Ob.f8 (Ob.new (Ob.pR (Ob.f8 (Ob.new (Ob.pR (Ob.f6 (Ob.new (Ob.pR (Ob.f7 (Ob.new ho))))))))))))))))))))
theorem ev_X9_init {G : gG} {l : Launch} {h : ph} {s : Nat} (ho : Ob h s 8) (hz : hN h ≤ 800000) : Ev G l mX9_init 2 52 4042 [.ref s] h (eV (f9 h s)) := by
  refine ev_of (ls := [some (.ref s)]) (by decide +kernel) (Nat.le_of_ble_eq_true rfl) rfl ?_
  refine co_aload_n dX9_init_0 rfl ?_
  refine r_obj nX9_init_1 (by decide) (Nat.le_of_ble_eq_true rfl) ?_
  refine co_aload_n dX9_init_4 rfl ?_
  refine r_new' (cb := 51) (sb := 4038) (cn := 4) nX9_init_5 (show hN h + 0 < 1000000 by omega) rfl rfl rfl ?_
  refine co_dup dX9_init_8 rfl ?_
  refine c_cV (cb := 48) (sb := 3899) dX9_init_9 (ev_X7_init (Ob.fresh _ _) (by show hN h + 1 ≤ 900000; omega)) (by decide) rfl rfl (Nat.le_of_ble_eq_true rfl) rfl rfl ?_
  refine r_putR dX9_init_12 (Ob.f7 (Ob.new ho)) ?_
  refine co_aload_n dX9_init_15 rfl ?_
  refine r_new' (cb := 47) (sb := 3896) (cn := 3) nX9_init_16 (show hN h + 4 < 1000000 by omega) rfl rfl rfl ?_
  refine co_dup dX9_init_19 rfl ?_
  refine c_cV (cb := 16) (sb := 116) dX9_init_20 (ev_X6_init (Ob.fresh _ _) (by show hN h + 5 ≤ 900000; omega)) (by decide) rfl rfl (Nat.le_of_ble_eq_true rfl) rfl rfl ?_
  refine r_putR dX9_init_23 (Ob.f6 (Ob.new (Ob.pR (Ob.f7 (Ob.new ho))))) ?_
  refine co_aload_n dX9_init_26 rfl ?_
  refine r_new' (cb := 15) (sb := 111) (cn := 5) nX9_init_27 (show hN h + 36 < 1000000 by omega) rfl rfl rfl ?_
  refine co_dup dX9_init_30 rfl ?_
  refine co_bipush (z := 8) dX9_init_31 rfl ?_
  refine c_cV (cb := 12) (sb := 87) dX9_init_33 (ev_X8_init (Ob.fresh _ _) (by show hN h + 37 ≤ 900000; omega) (x := 8) (by decide)) (by decide) rfl rfl (Nat.le_of_ble_eq_true rfl) rfl rfl ?_
  refine r_putR dX9_init_36 (Ob.f8 (Ob.new (Ob.pR (Ob.f6 (Ob.new (Ob.pR (Ob.f7 (Ob.new ho)))))))) ?_
  refine co_aload_n dX9_init_39 rfl ?_
  refine r_new' (cb := 11) (sb := 82) (cn := 5) nX9_init_40 (show hN h + 40 < 1000000 by omega) rfl rfl rfl ?_
  refine co_dup dX9_init_43 rfl ?_
  refine co_bipush (z := 6) dX9_init_44 rfl ?_
  refine c_cV (cb := 8) (sb := 58) dX9_init_46 (ev_X8_init (Ob.fresh _ _) (by show hN h + 41 ≤ 900000; omega) (x := 6) (by decide)) (by decide) rfl rfl (Nat.le_of_ble_eq_true rfl) rfl rfl ?_
  refine r_putR dX9_init_49 (Ob.f8 (Ob.new (Ob.pR (Ob.f8 (Ob.new (Ob.pR (Ob.f6 (Ob.new (Ob.pR (Ob.f7 (Ob.new ho))))))))))) ?_
  refine co_aload_n dX9_init_52 rfl ?_
  refine r_new' (cb := 7) (sb := 53) (cn := 5) nX9_init_53 (show hN h + 44 < 1000000 by omega) rfl rfl rfl ?_
  refine co_dup dX9_init_56 rfl ?_
  refine co_bipush (z := 8) dX9_init_57 rfl ?_
  refine c_cV (cb := 4) (sb := 29) dX9_init_59 (ev_X8_init (Ob.fresh _ _) (by show hN h + 45 ≤ 900000; omega) (x := 8) (by decide)) (by decide) rfl rfl (Nat.le_of_ble_eq_true rfl) rfl rfl ?_
  refine r_putR dX9_init_62 (Ob.f8 (Ob.new (Ob.pR (Ob.f8 (Ob.new (Ob.pR (Ob.f8 (Ob.new (Ob.pR (Ob.f6 (Ob.new (Ob.pR (Ob.f7 (Ob.new ho)))))))))))))) ?_
  refine co_aload_n dX9_init_65 rfl ?_
  refine r_new' (cb := 3) (sb := 24) (cn := 5) nX9_init_66 (show hN h + 48 < 1000000 by omega) rfl rfl rfl ?_
  refine co_dup dX9_init_69 rfl ?_
  refine co_bipush (z := 8) dX9_init_70 rfl ?_
  refine c_cV (cb := 0) (sb := 0) dX9_init_72 (ev_X8_init (Ob.fresh _ _) (by show hN h + 49 ≤ 900000; omega) (x := 8) (by decide)) (by decide) rfl rfl (Nat.le_of_ble_eq_true rfl) rfl rfl ?_
  refine r_putR dX9_init_75 (Ob.f8 (Ob.new (Ob.pR (Ob.f8 (Ob.new (Ob.pR (Ob.f8 (Ob.new (Ob.pR (Ob.f8 (Ob.new (Ob.pR (Ob.f6 (Ob.new (Ob.pR (Ob.f7 (Ob.new ho))))))))))))))))) ?_
  refine co_aload_n dX9_init_78 rfl ?_
  refine co_iconst dX9_init_79 ?_
  refine r_putI dX9_init_80 (Ob.pR (Ob.f8 (Ob.new (Ob.pR (Ob.f8 (Ob.new (Ob.pR (Ob.f8 (Ob.new (Ob.pR (Ob.f8 (Ob.new (Ob.pR (Ob.f6 (Ob.new (Ob.pR (Ob.f7 (Ob.new ho)))))))))))))))))) ?_
  refine co_aload_n dX9_init_83 rfl ?_
  refine co_iconst dX9_init_84 ?_
  refine r_putI dX9_init_85 (Ob.pI (Ob.pR (Ob.f8 (Ob.new (Ob.pR (Ob.f8 (Ob.new (Ob.pR (Ob.f8 (Ob.new (Ob.pR (Ob.f8 (Ob.new (Ob.pR (Ob.f6 (Ob.new (Ob.pR (Ob.f7 (Ob.new ho))))))))))))))))))) ?_
  exact co_return dX9_init_88 rfl ⟨rfl, rfl⟩
def f3 (h : ph) (s : Nat) : ph := (sI (sI (sI (sR (f5 (sNew (sI (sI (sI (sR (sNew (sR (sNew (sR (sNew (sI (sR (sNew h (100, 300)) s 0 (some (hN h + 0))) s 1 (0)) (100, 301)) s 2 (some (hN h + 1))) (100, 301)) s 3 (some (hN h + 2))) (100, 301)) s 4 (some (hN h + 3))) s 5 (0)) s 6 (0)) s 7 (-1)) (4, 0)) (hN h + 4)) s 8 (some (hN h + 4))) s 9 (0)) s 10 (0)) s 11 (-1))
theorem f3_n (h : ph) (s : Nat) : hN (f3 h s) = hN h + 12 := rfl
theorem Ob.f3 {h : ph} {s o ci : Nat} (ho : Ob h o ci) : Ob (f3 h s) o ci := (Ob.pI (Ob.pI (Ob.pI (Ob.pR (Ob.f5 (Ob.new (Ob.pI (Ob.pI (Ob.pI (Ob.pR (Ob.new (Ob.pR (Ob.new (Ob.pR (Ob.new (Ob.pI (Ob.pR (Ob.new ho))))))))))))))))))
theorem ev_X3_init {G : gG} {l : Launch} {h : ph} {s : Nat} (ho : Ob h s 2) (hz : hN h ≤ 800000) : Ev G l mX3_init 2 12 1890 [.ref s] h (eV (f3 h s)) := by
  refine ev_of (ls := [some (.ref s)]) (by decide +kernel) (Nat.le_of_ble_eq_true rfl) rfl ?_
  refine co_aload_n dX3_init_0 rfl ?_
  refine r_obj nX3_init_1 (by decide) (Nat.le_of_ble_eq_true rfl) ?_
  refine co_aload_n dX3_init_4 rfl ?_
  refine co_sipush (z := 300) dX3_init_5 rfl ?_
  refine r_newa' (cb := 11) (sb := 1590) (n := 300) dX3_init_8 (by decide) (show hN h + 0 < 1000000 by omega) rfl rfl ?_
  refine r_putR dX3_init_10 (Ob.new ho) ?_
  refine co_aload_n dX3_init_13 rfl ?_
  refine co_iconst dX3_init_14 ?_
  refine r_putI dX3_init_15 (Ob.pR (Ob.new ho)) ?_
  refine co_aload_n dX3_init_18 rfl ?_
  refine co_sipush (z := 301) dX3_init_19 rfl ?_
  refine r_newa' (cb := 10) (sb := 1289) (n := 301) dX3_init_22 (by decide) (show hN h + 1 < 1000000 by omega) rfl rfl ?_
  refine r_putR dX3_init_24 (Ob.new (Ob.pI (Ob.pR (Ob.new ho)))) ?_
  refine co_aload_n dX3_init_27 rfl ?_
  refine co_sipush (z := 301) dX3_init_28 rfl ?_
  refine r_newa' (cb := 9) (sb := 988) (n := 301) dX3_init_31 (by decide) (show hN h + 2 < 1000000 by omega) rfl rfl ?_
  refine r_putR dX3_init_33 (Ob.new (Ob.pR (Ob.new (Ob.pI (Ob.pR (Ob.new ho)))))) ?_
  refine co_aload_n dX3_init_36 rfl ?_
  refine co_sipush (z := 301) dX3_init_37 rfl ?_
  refine r_newa' (cb := 8) (sb := 687) (n := 301) dX3_init_40 (by decide) (show hN h + 3 < 1000000 by omega) rfl rfl ?_
  refine r_putR dX3_init_42 (Ob.new (Ob.pR (Ob.new (Ob.pR (Ob.new (Ob.pI (Ob.pR (Ob.new ho)))))))) ?_
  refine co_aload_n dX3_init_45 rfl ?_
  refine co_iconst dX3_init_46 ?_
  refine r_putI dX3_init_47 (Ob.pR (Ob.new (Ob.pR (Ob.new (Ob.pR (Ob.new (Ob.pI (Ob.pR (Ob.new ho))))))))) ?_
  refine co_aload_n dX3_init_50 rfl ?_
  refine co_iconst dX3_init_51 ?_
  refine r_putI dX3_init_52 (Ob.pI (Ob.pR (Ob.new (Ob.pR (Ob.new (Ob.pR (Ob.new (Ob.pI (Ob.pR (Ob.new ho)))))))))) ?_
  refine co_aload_n dX3_init_55 rfl ?_
  refine co_iconst dX3_init_56 ?_
  refine r_putI dX3_init_57 (Ob.pI (Ob.pI (Ob.pR (Ob.new (Ob.pR (Ob.new (Ob.pR (Ob.new (Ob.pI (Ob.pR (Ob.new ho))))))))))) ?_
  refine co_aload_n dX3_init_60 rfl ?_
  refine r_new' (cb := 7) (sb := 678) (cn := 9) nX3_init_61 (show hN h + 4 < 1000000 by omega) rfl rfl rfl ?_
  refine co_dup dX3_init_64 rfl ?_
  refine c_cV (cb := 0) (sb := 0) dX3_init_65 (ev_X5_init (Ob.fresh _ _) (by show hN h + 5 ≤ 900000; omega)) (by decide) rfl rfl (Nat.le_of_ble_eq_true rfl) rfl rfl ?_
  refine r_putR dX3_init_68 (Ob.f5 (Ob.new (Ob.pI (Ob.pI (Ob.pI (Ob.pR (Ob.new (Ob.pR (Ob.new (Ob.pR (Ob.new (Ob.pI (Ob.pR (Ob.new ho)))))))))))))) ?_
  refine co_aload_n dX3_init_71 rfl ?_
  refine co_iconst dX3_init_72 ?_
  refine r_putZ dX3_init_73 (Ob.pR (Ob.f5 (Ob.new (Ob.pI (Ob.pI (Ob.pI (Ob.pR (Ob.new (Ob.pR (Ob.new (Ob.pR (Ob.new (Ob.pI (Ob.pR (Ob.new ho))))))))))))))) (by decide) ?_
  refine co_aload_n dX3_init_76 rfl ?_
  refine co_iconst dX3_init_77 ?_
  refine r_putI dX3_init_78 (Ob.pI (Ob.pR (Ob.f5 (Ob.new (Ob.pI (Ob.pI (Ob.pI (Ob.pR (Ob.new (Ob.pR (Ob.new (Ob.pR (Ob.new (Ob.pI (Ob.pR (Ob.new ho)))))))))))))))) ?_
  refine co_aload_n dX3_init_81 rfl ?_
  refine co_iconst dX3_init_82 ?_
  refine r_putI dX3_init_83 (Ob.pI (Ob.pI (Ob.pR (Ob.f5 (Ob.new (Ob.pI (Ob.pI (Ob.pI (Ob.pR (Ob.new (Ob.pR (Ob.new (Ob.pR (Ob.new (Ob.pI (Ob.pR (Ob.new ho))))))))))))))))) ?_
  exact co_return dX3_init_86 rfl ⟨rfl, rfl⟩
def f1 (h : ph) (s : Nat) : ph := (sR (sNew (sR (sNew h (100, 64)) s 0 (some (hN h + 0))) (100, 9)) s 1 (some (hN h + 1)))
theorem f1_n (h : ph) (s : Nat) : hN (f1 h s) = hN h + 2 := rfl
theorem Ob.f1 {h : ph} {s o ci : Nat} (ho : Ob h o ci) : Ob (f1 h s) o ci := (Ob.pR (Ob.new (Ob.pR (Ob.new ho))))
theorem ev_X1_init {G : gG} {l : Launch} {h : ph} {s : Nat} (ho : Ob h s 1) (hz : hN h ≤ 900000) : Ev G l mX1_init 1 2 73 [.ref s] h (eV (f1 h s)) := by
  refine ev_of (ls := [some (.ref s)]) (by decide +kernel) (Nat.le_of_ble_eq_true rfl) rfl ?_
  refine co_aload_n dX1_init_0 rfl ?_
  refine r_obj nX1_init_1 (by decide) (Nat.le_of_ble_eq_true rfl) ?_
  refine co_aload_n dX1_init_4 rfl ?_
  refine co_bipush (z := 64) dX1_init_5 rfl ?_
  refine r_newa' (cb := 1) (sb := 9) (n := 64) dX1_init_7 (by decide) (show hN h + 0 < 1000000 by omega) rfl rfl ?_
  refine r_putR dX1_init_9 (Ob.new ho) ?_
  refine co_aload_n dX1_init_12 rfl ?_
  refine co_bipush (z := 9) dX1_init_13 rfl ?_
  refine r_newa' (cb := 0) (sb := 0) (n := 9) dX1_init_15 (by decide) (show hN h + 1 < 1000000 by omega) rfl rfl ?_
  refine r_putR dX1_init_17 (Ob.new (Ob.pR (Ob.new ho))) ?_
  exact co_return dX1_init_20 rfl ⟨rfl, rfl⟩
def f0 (h : ph) (s : Nat) : ph := (sI (sR (sNew (sR (sNew h (100, 99)) s 0 (some (hN h + 0))) (100, 256)) s 1 (some (hN h + 1))) s 2 (0))
theorem f0_n (h : ph) (s : Nat) : hN (f0 h s) = hN h + 2 := rfl
theorem Ob.f0 {h : ph} {s o ci : Nat} (ho : Ob h o ci) : Ob (f0 h s) o ci := (Ob.pI (Ob.pR (Ob.new (Ob.pR (Ob.new ho)))))
theorem ev_X0_init {G : gG} {l : Launch} {h : ph} {s : Nat} (ho : Ob h s 0) (hz : hN h ≤ 900000) : Ev G l mX0_init 1 2 355 [.ref s] h (eV (f0 h s)) := by
  refine ev_of (ls := [some (.ref s)]) (by decide +kernel) (Nat.le_of_ble_eq_true rfl) rfl ?_
  refine co_aload_n dX0_init_0 rfl ?_
  refine r_obj nX0_init_1 (by decide) (Nat.le_of_ble_eq_true rfl) ?_
  refine co_aload_n dX0_init_4 rfl ?_
  refine co_bipush (z := 99) dX0_init_5 rfl ?_
  refine r_newa' (cb := 1) (sb := 256) (n := 99) dX0_init_7 (by decide) (show hN h + 0 < 1000000 by omega) rfl rfl ?_
  refine r_putR dX0_init_9 (Ob.new ho) ?_
  refine co_aload_n dX0_init_12 rfl ?_
  refine co_sipush (z := 256) dX0_init_13 rfl ?_
  refine r_newa' (cb := 0) (sb := 0) (n := 256) dX0_init_16 (by decide) (show hN h + 1 < 1000000 by omega) rfl rfl ?_
  refine r_putR dX0_init_18 (Ob.new (Ob.pR (Ob.new ho))) ?_
  refine co_aload_n dX0_init_21 rfl ?_
  refine co_iconst dX0_init_22 ?_
  refine r_putI dX0_init_23 (Ob.pR (Ob.new (Ob.pR (Ob.new ho)))) ?_
  exact co_return dX0_init_26 rfl ⟨rfl, rfl⟩
def f4 (h : ph) (s : Nat) : ph := (sR (sNew (sR (sNew h (100, 448)) s 0 (some (hN h + 0))) (100, 6)) s 1 (some (hN h + 1)))
theorem f4_n (h : ph) (s : Nat) : hN (f4 h s) = hN h + 2 := rfl
theorem Ob.f4 {h : ph} {s o ci : Nat} (ho : Ob h o ci) : Ob (f4 h s) o ci := (Ob.pR (Ob.new (Ob.pR (Ob.new ho))))
theorem ev_X4_init {G : gG} {l : Launch} {h : ph} {s : Nat} (ho : Ob h s 3) (hz : hN h ≤ 900000) : Ev G l mX4_init 1 2 454 [.ref s] h (eV (f4 h s)) := by
  refine ev_of (ls := [some (.ref s)]) (by decide +kernel) (Nat.le_of_ble_eq_true rfl) rfl ?_
  refine co_aload_n dX4_init_0 rfl ?_
  refine r_obj nX4_init_1 (by decide) (Nat.le_of_ble_eq_true rfl) ?_
  refine co_aload_n dX4_init_4 rfl ?_
  refine co_sipush (z := 448) dX4_init_5 rfl ?_
  refine r_newa' (cb := 1) (sb := 6) (n := 448) dX4_init_8 (by decide) (show hN h + 0 < 1000000 by omega) rfl rfl ?_
  refine r_putR dX4_init_10 (Ob.new ho) ?_
  refine co_aload_n dX4_init_13 rfl ?_
  refine co_bipush (z := 6) dX4_init_14 rfl ?_
  refine r_newa' (cb := 0) (sb := 0) (n := 6) dX4_init_16 (by decide) (show hN h + 1 < 1000000 by omega) rfl rfl ?_
  refine r_putR dX4_init_18 (Ob.new (Ob.pR (Ob.new ho))) ?_
  exact co_return dX4_init_21 rfl ⟨rfl, rfl⟩
def f10 : ph := (sR (f5 (sNew (sR (f5 (sNew (sR (f5 (sNew (sR (f5 (sNew (sR (f4 (sNew (sR (f0 (sNew (sR (f7 (sNew (sR (f1 (sNew (sR (f3 (sNew (sR (sNew (sR (f9 (sNew (sR (f9 (sNew (sNew hE (9, 0)) (8, 0)) 1) 0 0 (some 1)) (8, 0)) 54) 0 1 (some 54)) (103, 4)) 0 2 (some 107)) (2, 0)) 108) 0 3 (some 108)) (1, 0)) 121) 0 4 (some 121)) (6, 0)) 124) 0 5 (some 124)) (0, 0)) 128) 0 6 (some 128)) (3, 0)) 131) 0 7 (some 131)) (4, 0)) 134) 107 0 (some 134)) (4, 0)) 142) 107 1 (some 142)) (4, 0)) 150) 107 2 (some 150)) (4, 0)) 158) 107 3 (some 158))
set_option maxRecDepth 20000 in
theorem ev_X10_init {G : gG} {l : Launch} : Ev G l mX10_init 3 165 13786 [.ref 0] (sNew hE (9, 0)) (eV f10) := by
  have ho : Ob (sNew hE (9, 0)) 0 9 := by refine ⟨?_, ?_⟩ <;> decide +kernel
  refine ev_of (ls := [some (.ref 0), none]) (by decide +kernel) (Nat.le_of_ble_eq_true rfl) rfl ?_
  refine co_aload_n dX10_init_0 rfl ?_
  refine r_obj nX10_init_1 (by decide) (Nat.le_of_ble_eq_true rfl) ?_
  refine co_aload_n dX10_init_4 rfl ?_
  refine r_new' (cb := 164) (sb := 13778) (cn := 8) nX10_init_5 (by show 1 < 1000000; decide) rfl rfl rfl ?_
  refine co_dup dX10_init_8 rfl ?_
  refine c_cV (cb := 112) (sb := 9736) dX10_init_9 (ev_X9_init (Ob.fresh _ _) (by show 2 ≤ 800000; decide)) (by decide) rfl rfl (Nat.le_of_ble_eq_true rfl) rfl rfl ?_
  refine r_putR dX10_init_12 (Ob.f9 (Ob.new ho)) ?_
  refine co_aload_n dX10_init_15 rfl ?_
  refine r_new' (cb := 111) (sb := 9728) (cn := 8) nX10_init_16 (by show 54 < 1000000; decide) rfl rfl rfl ?_
  refine co_dup dX10_init_19 rfl ?_
  refine c_cV (cb := 59) (sb := 5686) dX10_init_20 (ev_X9_init (Ob.fresh _ _) (by show 55 ≤ 800000; decide)) (by decide) rfl rfl (Nat.le_of_ble_eq_true rfl) rfl rfl ?_
  refine r_putR dX10_init_23 (Ob.f9 (Ob.new (Ob.pR (Ob.f9 (Ob.new ho))))) ?_
  refine co_aload_n dX10_init_26 rfl ?_
  refine co_iconst dX10_init_27 ?_
  refine r_anew (cb := 58) (sb := 5682) (n := 4) nX10_init_28 (by decide) (by show 107 < 1000000; decide) rfl rfl ?_
  refine r_putR dX10_init_31 (Ob.new (Ob.pR (Ob.f9 (Ob.new (Ob.pR (Ob.f9 (Ob.new ho))))))) ?_
  refine co_aload_n dX10_init_34 rfl ?_
  refine r_new' (cb := 57) (sb := 5670) (cn := 12) nX10_init_35 (by show 108 < 1000000; decide) rfl rfl rfl ?_
  refine co_dup dX10_init_38 rfl ?_
  refine c_cV (cb := 45) (sb := 3780) dX10_init_39 (ev_X3_init (Ob.fresh _ _) (by show 109 ≤ 800000; decide)) (by decide) rfl rfl (Nat.le_of_ble_eq_true rfl) rfl rfl ?_
  refine r_putR dX10_init_42 (Ob.f3 (Ob.new (Ob.pR (Ob.new (Ob.pR (Ob.f9 (Ob.new (Ob.pR (Ob.f9 (Ob.new ho)))))))))) ?_
  refine co_aload_n dX10_init_45 rfl ?_
  refine r_new' (cb := 44) (sb := 3778) (cn := 2) nX10_init_46 (by show 121 < 1000000; decide) rfl rfl rfl ?_
  refine co_dup dX10_init_49 rfl ?_
  refine c_cV (cb := 42) (sb := 3705) dX10_init_50 (ev_X1_init (Ob.fresh _ _) (by show 122 ≤ 900000; decide)) (by decide) rfl rfl (Nat.le_of_ble_eq_true rfl) rfl rfl ?_
  refine r_putR dX10_init_53 (Ob.f1 (Ob.new (Ob.pR (Ob.f3 (Ob.new (Ob.pR (Ob.new (Ob.pR (Ob.f9 (Ob.new (Ob.pR (Ob.f9 (Ob.new ho))))))))))))) ?_
  refine co_aload_n dX10_init_56 rfl ?_
  refine r_new' (cb := 41) (sb := 3701) (cn := 4) nX10_init_57 (by show 124 < 1000000; decide) rfl rfl rfl ?_
  refine co_dup dX10_init_60 rfl ?_
  refine c_cV (cb := 38) (sb := 3562) dX10_init_61 (ev_X7_init (Ob.fresh _ _) (by show 125 ≤ 900000; decide)) (by decide) rfl rfl (Nat.le_of_ble_eq_true rfl) rfl rfl ?_
  refine r_putR dX10_init_64 (Ob.f7 (Ob.new (Ob.pR (Ob.f1 (Ob.new (Ob.pR (Ob.f3 (Ob.new (Ob.pR (Ob.new (Ob.pR (Ob.f9 (Ob.new (Ob.pR (Ob.f9 (Ob.new ho)))))))))))))))) ?_
  refine co_aload_n dX10_init_67 rfl ?_
  refine r_new' (cb := 37) (sb := 3559) (cn := 3) nX10_init_68 (by show 128 < 1000000; decide) rfl rfl rfl ?_
  refine co_dup dX10_init_71 rfl ?_
  refine c_cV (cb := 35) (sb := 3204) dX10_init_72 (ev_X0_init (Ob.fresh _ _) (by show 129 ≤ 900000; decide)) (by decide) rfl rfl (Nat.le_of_ble_eq_true rfl) rfl rfl ?_
  refine r_putR dX10_init_75 (Ob.f0 (Ob.new (Ob.pR (Ob.f7 (Ob.new (Ob.pR (Ob.f1 (Ob.new (Ob.pR (Ob.f3 (Ob.new (Ob.pR (Ob.new (Ob.pR (Ob.f9 (Ob.new (Ob.pR (Ob.f9 (Ob.new ho))))))))))))))))))) ?_
  refine co_aload_n dX10_init_78 rfl ?_
  refine r_new' (cb := 34) (sb := 3202) (cn := 2) nX10_init_79 (by show 131 < 1000000; decide) rfl rfl rfl ?_
  refine co_dup dX10_init_82 rfl ?_
  refine c_cV (cb := 32) (sb := 2748) dX10_init_83 (ev_X4_init (Ob.fresh _ _) (by show 132 ≤ 900000; decide)) (by decide) rfl rfl (Nat.le_of_ble_eq_true rfl) rfl rfl ?_
  refine r_putR dX10_init_86 (Ob.f4 (Ob.new (Ob.pR (Ob.f0 (Ob.new (Ob.pR (Ob.f7 (Ob.new (Ob.pR (Ob.f1 (Ob.new (Ob.pR (Ob.f3 (Ob.new (Ob.pR (Ob.new (Ob.pR (Ob.f9 (Ob.new (Ob.pR (Ob.f9 (Ob.new ho)))))))))))))))))))))) ?_
  refine co_iconst dX10_init_89 ?_
  refine s_istore_n (ls' := [_, _]) dX10_init_90 (Nat.le_of_ble_eq_true rfl) rfl rfl ?_
  refine co_iload_n dX10_init_91 rfl ?_
  refine co_iconst dX10_init_92 ?_
  refine co_icmp_ge (tgt := 115) dX10_init_93 rfl (by decide) (by decide) (fun c9 => ?_) (fun c9 => ?_)
  · exact absurd c9 (by decide)
  refine co_aload_n dX10_init_96 rfl ?_
  refine r_getR (q := 107) dX10_init_97 (Ob.pR (Ob.f4 (Ob.new (Ob.pR (Ob.f0 (Ob.new (Ob.pR (Ob.f7 (Ob.new (Ob.pR (Ob.f1 (Ob.new (Ob.pR (Ob.f3 (Ob.new (Ob.pR (Ob.new (Ob.pR (Ob.f9 (Ob.new (Ob.pR (Ob.f9 (Ob.new ho))))))))))))))))))))))) (by decide +kernel) ?_
  refine co_iload_n dX10_init_100 rfl ?_
  refine r_new' (cb := 31) (sb := 2739) (cn := 9) nX10_init_101 (by show 134 < 1000000; decide) rfl rfl rfl ?_
  refine co_dup dX10_init_104 rfl ?_
  refine c_cV (cb := 24) (sb := 2061) dX10_init_105 (ev_X5_init (Ob.fresh _ _) (by show 135 ≤ 900000; decide)) (by decide) rfl rfl (Nat.le_of_ble_eq_true rfl) rfl rfl ?_
  refine r_aast3 (n := 4) dX10_init_108 (by refine ⟨⟨?_, ?_⟩, ?_, ?_⟩ <;> decide +kernel) (by decide) (by refine ⟨?_, ?_⟩ <;> decide +kernel) ?_
  refine s_iinc (ls' := [_, _]) dX10_init_109 rfl (Nat.le_of_ble_eq_true rfl) rfl rfl ?_
  refine co_goto (tgt := 91) dX10_init_112 rfl ?_
  refine co_iload_n dX10_init_91 rfl ?_
  refine co_iconst dX10_init_92 ?_
  refine co_icmp_ge (tgt := 115) dX10_init_93 rfl (by decide) (by decide) (fun c9 => ?_) (fun c9 => ?_)
  · exact absurd c9 (by decide)
  refine co_aload_n dX10_init_96 rfl ?_
  refine r_getR (q := 107) dX10_init_97 (Ob.pR (Ob.f5 (Ob.new (Ob.pR (Ob.f4 (Ob.new (Ob.pR (Ob.f0 (Ob.new (Ob.pR (Ob.f7 (Ob.new (Ob.pR (Ob.f1 (Ob.new (Ob.pR (Ob.f3 (Ob.new (Ob.pR (Ob.new (Ob.pR (Ob.f9 (Ob.new (Ob.pR (Ob.f9 (Ob.new ho)))))))))))))))))))))))))) (by decide +kernel) ?_
  refine co_iload_n dX10_init_100 rfl ?_
  refine r_new' (cb := 23) (sb := 2052) (cn := 9) nX10_init_101 (by show 142 < 1000000; decide) rfl rfl rfl ?_
  refine co_dup dX10_init_104 rfl ?_
  refine c_cV (cb := 16) (sb := 1374) dX10_init_105 (ev_X5_init (Ob.fresh _ _) (by show 143 ≤ 900000; decide)) (by decide) rfl rfl (Nat.le_of_ble_eq_true rfl) rfl rfl ?_
  refine r_aast3 (n := 4) dX10_init_108 (by refine ⟨⟨?_, ?_⟩, ?_, ?_⟩ <;> decide +kernel) (by decide) (by refine ⟨?_, ?_⟩ <;> decide +kernel) ?_
  refine s_iinc (ls' := [_, _]) dX10_init_109 rfl (Nat.le_of_ble_eq_true rfl) rfl rfl ?_
  refine co_goto (tgt := 91) dX10_init_112 rfl ?_
  refine co_iload_n dX10_init_91 rfl ?_
  refine co_iconst dX10_init_92 ?_
  refine co_icmp_ge (tgt := 115) dX10_init_93 rfl (by decide) (by decide) (fun c9 => ?_) (fun c9 => ?_)
  · exact absurd c9 (by decide)
  refine co_aload_n dX10_init_96 rfl ?_
  refine r_getR (q := 107) dX10_init_97 (Ob.pR (Ob.f5 (Ob.new (Ob.pR (Ob.f5 (Ob.new (Ob.pR (Ob.f4 (Ob.new (Ob.pR (Ob.f0 (Ob.new (Ob.pR (Ob.f7 (Ob.new (Ob.pR (Ob.f1 (Ob.new (Ob.pR (Ob.f3 (Ob.new (Ob.pR (Ob.new (Ob.pR (Ob.f9 (Ob.new (Ob.pR (Ob.f9 (Ob.new ho))))))))))))))))))))))))))))) (by decide +kernel) ?_
  refine co_iload_n dX10_init_100 rfl ?_
  refine r_new' (cb := 15) (sb := 1365) (cn := 9) nX10_init_101 (by show 150 < 1000000; decide) rfl rfl rfl ?_
  refine co_dup dX10_init_104 rfl ?_
  refine c_cV (cb := 8) (sb := 687) dX10_init_105 (ev_X5_init (Ob.fresh _ _) (by show 151 ≤ 900000; decide)) (by decide) rfl rfl (Nat.le_of_ble_eq_true rfl) rfl rfl ?_
  refine r_aast3 (n := 4) dX10_init_108 (by refine ⟨⟨?_, ?_⟩, ?_, ?_⟩ <;> decide +kernel) (by decide) (by refine ⟨?_, ?_⟩ <;> decide +kernel) ?_
  refine s_iinc (ls' := [_, _]) dX10_init_109 rfl (Nat.le_of_ble_eq_true rfl) rfl rfl ?_
  refine co_goto (tgt := 91) dX10_init_112 rfl ?_
  refine co_iload_n dX10_init_91 rfl ?_
  refine co_iconst dX10_init_92 ?_
  refine co_icmp_ge (tgt := 115) dX10_init_93 rfl (by decide) (by decide) (fun c9 => ?_) (fun c9 => ?_)
  · exact absurd c9 (by decide)
  refine co_aload_n dX10_init_96 rfl ?_
  refine r_getR (q := 107) dX10_init_97 (Ob.pR (Ob.f5 (Ob.new (Ob.pR (Ob.f5 (Ob.new (Ob.pR (Ob.f5 (Ob.new (Ob.pR (Ob.f4 (Ob.new (Ob.pR (Ob.f0 (Ob.new (Ob.pR (Ob.f7 (Ob.new (Ob.pR (Ob.f1 (Ob.new (Ob.pR (Ob.f3 (Ob.new (Ob.pR (Ob.new (Ob.pR (Ob.f9 (Ob.new (Ob.pR (Ob.f9 (Ob.new ho)))))))))))))))))))))))))))))))) (by decide +kernel) ?_
  refine co_iload_n dX10_init_100 rfl ?_
  refine r_new' (cb := 7) (sb := 678) (cn := 9) nX10_init_101 (by show 158 < 1000000; decide) rfl rfl rfl ?_
  refine co_dup dX10_init_104 rfl ?_
  refine c_cV (cb := 0) (sb := 0) dX10_init_105 (ev_X5_init (Ob.fresh _ _) (by show 159 ≤ 900000; decide)) (by decide) rfl rfl (Nat.le_of_ble_eq_true rfl) rfl rfl ?_
  refine r_aast3 (n := 4) dX10_init_108 (by refine ⟨⟨?_, ?_⟩, ?_, ?_⟩ <;> decide +kernel) (by decide) (by refine ⟨?_, ?_⟩ <;> decide +kernel) ?_
  refine s_iinc (ls' := [_, _]) dX10_init_109 rfl (Nat.le_of_ble_eq_true rfl) rfl rfl ?_
  refine co_goto (tgt := 91) dX10_init_112 rfl ?_
  refine co_iload_n dX10_init_91 rfl ?_
  refine co_iconst dX10_init_92 ?_
  refine co_icmp_ge (tgt := 115) dX10_init_93 rfl (by decide) (by decide) (fun c9 => ?_) (fun c9 => ?_)
  rotate_left
  · exact absurd c9 (by decide)
  exact co_return dX10_init_115 rfl ⟨rfl, rfl⟩
def f11 : ph := (sA (sI (sI (sI (sI (sR (sNew (sR (sNew (sR (sNew (sR (sNew (sI (sR (sNew (sR (sNew (sR (sNew (sR (sNew (sI (sI (sR (sNew (sR (sNew (sR (sNew (sR (sNew (sNew f10 (10, 0)) (100, 3640)) 166 0 (some 167)) (100, 3640)) 166 1 (some 168)) (100, 2820)) 166 2 (some 169)) (100, 300)) 166 3 (some 170)) 166 5 (-1)) 166 6 (-1)) (100, 160)) 166 15 (some 171)) (100, 9)) 166 20 (some 172)) (101, 330)) 166 21 (some 173)) (102, 330)) 166 22 (some 174)) 166 23 (1)) (100, 8)) 166 25 (some 175)) (100, 72)) 166 26 (some 176)) (102, 256)) 166 27 (some 177)) (100, 448)) 166 28 (some 178)) 167 13 (151)) 167 3 (-1)) 167 9 (3)) 167 12 (9)) 168 (cpR (hI (sI (sI (sI (sI (sR (sNew (sR (sNew (sR (sNew (sR (sNew (sI (sR (sNew (sR (sNew (sR (sNew (sR (sNew (sI (sI (sR (sNew (sR (sNew (sR (sNew (sR (sNew (sNew f10 (10, 0)) (100, 3640)) 166 0 (some 167)) (100, 3640)) 166 1 (some 168)) (100, 2820)) 166 2 (some 169)) (100, 300)) 166 3 (some 170)) 166 5 (-1)) 166 6 (-1)) (100, 160)) 166 15 (some 171)) (100, 9)) 166 20 (some 172)) (101, 330)) 166 21 (some 173)) (102, 330)) 166 22 (some 174)) 166 23 (1)) (100, 8)) 166 25 (some 175)) (100, 72)) 166 26 (some 176)) (102, 256)) 166 27 (some 177)) (100, 448)) 166 28 (some 178)) 167 13 (151)) 167 3 (-1)) 167 9 (3)) 167 12 (9)) 167) (hI (sI (sI (sI (sI (sR (sNew (sR (sNew (sR (sNew (sR (sNew (sI (sR (sNew (sR (sNew (sR (sNew (sR (sNew (sI (sI (sR (sNew (sR (sNew (sR (sNew (sR (sNew (sNew f10 (10, 0)) (100, 3640)) 166 0 (some 167)) (100, 3640)) 166 1 (some 168)) (100, 2820)) 166 2 (some 169)) (100, 300)) 166 3 (some 170)) 166 5 (-1)) 166 6 (-1)) (100, 160)) 166 15 (some 171)) (100, 9)) 166 20 (some 172)) (101, 330)) 166 21 (some 173)) (102, 330)) 166 22 (some 174)) 166 23 (1)) (100, 8)) 166 25 (some 175)) (100, 72)) 166 26 (some 176)) (102, 256)) 166 27 (some 177)) (100, 448)) 166 28 (some 178)) 167 13 (151)) 167 3 (-1)) 167 9 (3)) 167 12 (9)) 168) 0 3640))
set_option maxRecDepth 20000 in
theorem ev_X11_init {G : gG} {l : Launch} : Ev G l mX11_init 1 12 12013 [.ref 166] (sNew f10 (10, 0)) (eV f11) := by
  have ho : Ob (sNew f10 (10, 0)) 166 10 := by refine ⟨?_, ?_⟩ <;> decide +kernel
  refine ev_of (ls := [some (.ref 166)]) (by decide +kernel) (Nat.le_of_ble_eq_true rfl) rfl ?_
  refine co_aload_n dX11_init_0 rfl ?_
  refine r_obj nX11_init_1 (by decide) (Nat.le_of_ble_eq_true rfl) ?_
  refine co_aload_n dX11_init_4 rfl ?_
  refine co_sipush (z := 3640) dX11_init_5 rfl ?_
  refine r_newa' (cb := 11) (sb := 8373) (n := 3640) dX11_init_8 (by decide) (by show 167 < 1000000; decide) rfl rfl ?_
  refine r_putR dX11_init_10 (Ob.new ho) ?_
  refine co_aload_n dX11_init_13 rfl ?_
  refine co_sipush (z := 3640) dX11_init_14 rfl ?_
  refine r_newa' (cb := 10) (sb := 4733) (n := 3640) dX11_init_17 (by decide) (by show 168 < 1000000; decide) rfl rfl ?_
  refine r_putR dX11_init_19 (Ob.new (Ob.pR (Ob.new ho))) ?_
  refine co_aload_n dX11_init_22 rfl ?_
  refine co_sipush (z := 2820) dX11_init_23 rfl ?_
  refine r_newa' (cb := 9) (sb := 1913) (n := 2820) dX11_init_26 (by decide) (by show 169 < 1000000; decide) rfl rfl ?_
  refine r_putR dX11_init_28 (Ob.new (Ob.pR (Ob.new (Ob.pR (Ob.new ho))))) ?_
  refine co_aload_n dX11_init_31 rfl ?_
  refine co_sipush (z := 300) dX11_init_32 rfl ?_
  refine r_newa' (cb := 8) (sb := 1613) (n := 300) dX11_init_35 (by decide) (by show 170 < 1000000; decide) rfl rfl ?_
  refine r_putR dX11_init_37 (Ob.new (Ob.pR (Ob.new (Ob.pR (Ob.new (Ob.pR (Ob.new ho))))))) ?_
  refine co_aload_n dX11_init_40 rfl ?_
  refine co_iconst dX11_init_41 ?_
  refine r_putI dX11_init_42 (Ob.pR (Ob.new (Ob.pR (Ob.new (Ob.pR (Ob.new (Ob.pR (Ob.new ho)))))))) ?_
  refine co_aload_n dX11_init_45 rfl ?_
  refine co_iconst dX11_init_46 ?_
  refine r_putI dX11_init_47 (Ob.pI (Ob.pR (Ob.new (Ob.pR (Ob.new (Ob.pR (Ob.new (Ob.pR (Ob.new ho))))))))) ?_
  refine co_aload_n dX11_init_50 rfl ?_
  refine co_sipush (z := 160) dX11_init_51 rfl ?_
  refine r_newa' (cb := 7) (sb := 1453) (n := 160) dX11_init_54 (by decide) (by show 171 < 1000000; decide) rfl rfl ?_
  refine r_putR dX11_init_56 (Ob.new (Ob.pI (Ob.pI (Ob.pR (Ob.new (Ob.pR (Ob.new (Ob.pR (Ob.new (Ob.pR (Ob.new ho))))))))))) ?_
  refine co_aload_n dX11_init_59 rfl ?_
  refine co_bipush (z := 9) dX11_init_60 rfl ?_
  refine r_newa' (cb := 6) (sb := 1444) (n := 9) dX11_init_62 (by decide) (by show 172 < 1000000; decide) rfl rfl ?_
  refine r_putR dX11_init_64 (Ob.new (Ob.pR (Ob.new (Ob.pI (Ob.pI (Ob.pR (Ob.new (Ob.pR (Ob.new (Ob.pR (Ob.new (Ob.pR (Ob.new ho))))))))))))) ?_
  refine co_aload_n dX11_init_67 rfl ?_
  refine co_sipush (z := 330) dX11_init_68 rfl ?_
  refine r_newl' (cb := 5) (sb := 1114) (n := 330) dX11_init_71 (by decide) (by show 173 < 1000000; decide) rfl rfl ?_
  refine r_putR dX11_init_73 (Ob.new (Ob.pR (Ob.new (Ob.pR (Ob.new (Ob.pI (Ob.pI (Ob.pR (Ob.new (Ob.pR (Ob.new (Ob.pR (Ob.new (Ob.pR (Ob.new ho))))))))))))))) ?_
  refine co_aload_n dX11_init_76 rfl ?_
  refine co_sipush (z := 330) dX11_init_77 rfl ?_
  refine r_newz' (cb := 4) (sb := 784) (n := 330) dX11_init_80 (by decide) (by show 174 < 1000000; decide) rfl rfl ?_
  refine r_putR dX11_init_82 (Ob.new (Ob.pR (Ob.new (Ob.pR (Ob.new (Ob.pR (Ob.new (Ob.pI (Ob.pI (Ob.pR (Ob.new (Ob.pR (Ob.new (Ob.pR (Ob.new (Ob.pR (Ob.new ho))))))))))))))))) ?_
  refine co_aload_n dX11_init_85 rfl ?_
  refine co_iconst dX11_init_86 ?_
  refine r_putZ dX11_init_87 (Ob.pR (Ob.new (Ob.pR (Ob.new (Ob.pR (Ob.new (Ob.pR (Ob.new (Ob.pI (Ob.pI (Ob.pR (Ob.new (Ob.pR (Ob.new (Ob.pR (Ob.new (Ob.pR (Ob.new ho)))))))))))))))))) (by decide) ?_
  refine co_aload_n dX11_init_90 rfl ?_
  refine co_bipush (z := 8) dX11_init_91 rfl ?_
  refine r_newa' (cb := 3) (sb := 776) (n := 8) dX11_init_93 (by decide) (by show 175 < 1000000; decide) rfl rfl ?_
  refine r_putR dX11_init_95 (Ob.new (Ob.pI (Ob.pR (Ob.new (Ob.pR (Ob.new (Ob.pR (Ob.new (Ob.pR (Ob.new (Ob.pI (Ob.pI (Ob.pR (Ob.new (Ob.pR (Ob.new (Ob.pR (Ob.new (Ob.pR (Ob.new ho)))))))))))))))))))) ?_
  refine co_aload_n dX11_init_98 rfl ?_
  refine co_bipush (z := 72) dX11_init_99 rfl ?_
  refine r_newa' (cb := 2) (sb := 704) (n := 72) dX11_init_101 (by decide) (by show 176 < 1000000; decide) rfl rfl ?_
  refine r_putR dX11_init_103 (Ob.new (Ob.pR (Ob.new (Ob.pI (Ob.pR (Ob.new (Ob.pR (Ob.new (Ob.pR (Ob.new (Ob.pR (Ob.new (Ob.pI (Ob.pI (Ob.pR (Ob.new (Ob.pR (Ob.new (Ob.pR (Ob.new (Ob.pR (Ob.new ho)))))))))))))))))))))) ?_
  refine co_aload_n dX11_init_106 rfl ?_
  refine co_sipush (z := 256) dX11_init_107 rfl ?_
  refine r_newz' (cb := 1) (sb := 448) (n := 256) dX11_init_110 (by decide) (by show 177 < 1000000; decide) rfl rfl ?_
  refine r_putR dX11_init_112 (Ob.new (Ob.pR (Ob.new (Ob.pR (Ob.new (Ob.pI (Ob.pR (Ob.new (Ob.pR (Ob.new (Ob.pR (Ob.new (Ob.pR (Ob.new (Ob.pI (Ob.pI (Ob.pR (Ob.new (Ob.pR (Ob.new (Ob.pR (Ob.new (Ob.pR (Ob.new ho)))))))))))))))))))))))) ?_
  refine co_aload_n dX11_init_115 rfl ?_
  refine co_sipush (z := 448) dX11_init_116 rfl ?_
  refine r_newa' (cb := 0) (sb := 0) (n := 448) dX11_init_119 (by decide) (by show 178 < 1000000; decide) rfl rfl ?_
  refine r_putR dX11_init_121 (Ob.new (Ob.pR (Ob.new (Ob.pR (Ob.new (Ob.pR (Ob.new (Ob.pI (Ob.pR (Ob.new (Ob.pR (Ob.new (Ob.pR (Ob.new (Ob.pR (Ob.new (Ob.pI (Ob.pI (Ob.pR (Ob.new (Ob.pR (Ob.new (Ob.pR (Ob.new (Ob.pR (Ob.new ho)))))))))))))))))))))))))) ?_
  refine co_aload_n dX11_init_124 rfl ?_
  refine r_getR (q := 167) dX11_init_125 (Ob.pR (Ob.new (Ob.pR (Ob.new (Ob.pR (Ob.new (Ob.pR (Ob.new (Ob.pI (Ob.pR (Ob.new (Ob.pR (Ob.new (Ob.pR (Ob.new (Ob.pR (Ob.new (Ob.pI (Ob.pI (Ob.pR (Ob.new (Ob.pR (Ob.new (Ob.pR (Ob.new (Ob.pR (Ob.new ho))))))))))))))))))))))))))) (by decide +kernel) ?_
  refine co_bipush (z := 13) dX11_init_128 rfl ?_
  refine co_sipush (z := 151) dX11_init_130 rfl ?_
  refine r_iast (n := 3640) dX11_init_133 (Aq.pR (Aq.new (Aq.pR (Aq.new (Aq.pR (Aq.new (Aq.pR (Aq.new (Aq.pI (Aq.pR (Aq.new (Aq.pR (Aq.new (Aq.pR (Aq.new (Aq.pR (Aq.new (Aq.pI (Aq.pI (Aq.pR (Aq.new (Aq.pR (Aq.new (Aq.pR (Aq.new (Aq.pR (Aq.mk (t := 0) (n := 3640) (by decide)))))))))))))))))))))))))))) (by decide) ?_
  refine co_aload_n dX11_init_134 rfl ?_
  refine r_getR (q := 167) dX11_init_135 (Ob.pI (Ob.pR (Ob.new (Ob.pR (Ob.new (Ob.pR (Ob.new (Ob.pR (Ob.new (Ob.pI (Ob.pR (Ob.new (Ob.pR (Ob.new (Ob.pR (Ob.new (Ob.pR (Ob.new (Ob.pI (Ob.pI (Ob.pR (Ob.new (Ob.pR (Ob.new (Ob.pR (Ob.new (Ob.pR (Ob.new ho)))))))))))))))))))))))))))) (by decide +kernel) ?_
  refine co_iconst dX11_init_138 ?_
  refine co_iconst dX11_init_139 ?_
  refine r_iast (n := 3640) dX11_init_140 (Aq.pI (Aq.pR (Aq.new (Aq.pR (Aq.new (Aq.pR (Aq.new (Aq.pR (Aq.new (Aq.pI (Aq.pR (Aq.new (Aq.pR (Aq.new (Aq.pR (Aq.new (Aq.pR (Aq.new (Aq.pI (Aq.pI (Aq.pR (Aq.new (Aq.pR (Aq.new (Aq.pR (Aq.new (Aq.pR (Aq.mk (t := 0) (n := 3640) (by decide))))))))))))))))))))))))))))) (by decide) ?_
  refine co_aload_n dX11_init_141 rfl ?_
  refine r_getR (q := 167) dX11_init_142 (Ob.pI (Ob.pI (Ob.pR (Ob.new (Ob.pR (Ob.new (Ob.pR (Ob.new (Ob.pR (Ob.new (Ob.pI (Ob.pR (Ob.new (Ob.pR (Ob.new (Ob.pR (Ob.new (Ob.pR (Ob.new (Ob.pI (Ob.pI (Ob.pR (Ob.new (Ob.pR (Ob.new (Ob.pR (Ob.new (Ob.pR (Ob.new ho))))))))))))))))))))))))))))) (by decide +kernel) ?_
  refine co_bipush (z := 9) dX11_init_145 rfl ?_
  refine co_iconst dX11_init_147 ?_
  refine r_iast (n := 3640) dX11_init_148 (Aq.pI (Aq.pI (Aq.pR (Aq.new (Aq.pR (Aq.new (Aq.pR (Aq.new (Aq.pR (Aq.new (Aq.pI (Aq.pR (Aq.new (Aq.pR (Aq.new (Aq.pR (Aq.new (Aq.pR (Aq.new (Aq.pI (Aq.pI (Aq.pR (Aq.new (Aq.pR (Aq.new (Aq.pR (Aq.new (Aq.pR (Aq.mk (t := 0) (n := 3640) (by decide)))))))))))))))))))))))))))))) (by decide) ?_
  refine co_aload_n dX11_init_149 rfl ?_
  refine r_getR (q := 167) dX11_init_150 (Ob.pI (Ob.pI (Ob.pI (Ob.pR (Ob.new (Ob.pR (Ob.new (Ob.pR (Ob.new (Ob.pR (Ob.new (Ob.pI (Ob.pR (Ob.new (Ob.pR (Ob.new (Ob.pR (Ob.new (Ob.pR (Ob.new (Ob.pI (Ob.pI (Ob.pR (Ob.new (Ob.pR (Ob.new (Ob.pR (Ob.new (Ob.pR (Ob.new ho)))))))))))))))))))))))))))))) (by decide +kernel) ?_
  refine co_bipush (z := 12) dX11_init_153 rfl ?_
  refine co_bipush (z := 9) dX11_init_155 rfl ?_
  refine r_iast (n := 3640) dX11_init_157 (Aq.pI (Aq.pI (Aq.pI (Aq.pR (Aq.new (Aq.pR (Aq.new (Aq.pR (Aq.new (Aq.pR (Aq.new (Aq.pI (Aq.pR (Aq.new (Aq.pR (Aq.new (Aq.pR (Aq.new (Aq.pR (Aq.new (Aq.pI (Aq.pI (Aq.pR (Aq.new (Aq.pR (Aq.new (Aq.pR (Aq.new (Aq.pR (Aq.mk (t := 0) (n := 3640) (by decide))))))))))))))))))))))))))))))) (by decide) ?_
  refine co_aload_n dX11_init_158 rfl ?_
  refine r_getR (q := 167) dX11_init_159 (Ob.pI (Ob.pI (Ob.pI (Ob.pI (Ob.pR (Ob.new (Ob.pR (Ob.new (Ob.pR (Ob.new (Ob.pR (Ob.new (Ob.pI (Ob.pR (Ob.new (Ob.pR (Ob.new (Ob.pR (Ob.new (Ob.pR (Ob.new (Ob.pI (Ob.pI (Ob.pR (Ob.new (Ob.pR (Ob.new (Ob.pR (Ob.new (Ob.pR (Ob.new ho))))))))))))))))))))))))))))))) (by decide +kernel) ?_
  refine co_aload_n dX11_init_162 rfl ?_
  refine r_getR (q := 168) dX11_init_163 (Ob.pI (Ob.pI (Ob.pI (Ob.pI (Ob.pR (Ob.new (Ob.pR (Ob.new (Ob.pR (Ob.new (Ob.pR (Ob.new (Ob.pI (Ob.pR (Ob.new (Ob.pR (Ob.new (Ob.pR (Ob.new (Ob.pR (Ob.new (Ob.pI (Ob.pI (Ob.pR (Ob.new (Ob.pR (Ob.new (Ob.pR (Ob.new (Ob.pR (Ob.new ho))))))))))))))))))))))))))))))) (by decide +kernel) ?_
  refine c_sV dX11_init_166 (ev_X11_copy (Aq.pI (Aq.pI (Aq.pI (Aq.pI (Aq.pR (Aq.new (Aq.pR (Aq.new (Aq.pR (Aq.new (Aq.pR (Aq.new (Aq.pI (Aq.pR (Aq.new (Aq.pR (Aq.new (Aq.pR (Aq.new (Aq.pR (Aq.new (Aq.pI (Aq.pI (Aq.pR (Aq.new (Aq.pR (Aq.new (Aq.pR (Aq.new (Aq.pR (Aq.mk (t := 0) (n := 3640) (by decide)))))))))))))))))))))))))))))))) (Aq.pI (Aq.pI (Aq.pI (Aq.pI (Aq.pR (Aq.new (Aq.pR (Aq.new (Aq.pR (Aq.new (Aq.pR (Aq.new (Aq.pI (Aq.pR (Aq.new (Aq.pR (Aq.new (Aq.pR (Aq.new (Aq.pR (Aq.new (Aq.pI (Aq.pI (Aq.pR (Aq.new (Aq.pR (Aq.new (Aq.pR (Aq.mk (t := 0) (n := 3640) (by decide)))))))))))))))))))))))))))))) (by decide)) (by decide) rfl rfl (Nat.le_of_ble_eq_true rfl) ?_
  exact co_return dX11_init_169 rfl ⟨rfl, rfl⟩
