-- ===== the class: single things =====
theorem nmK_rg (k : Int) : -1 ≤ nmK k ∧ nmK k ≤ 8 := by
  unfold nmK
  repeat' split
  all_goals omega
theorem nmK_45 {k : Int} (h : nmK k ≠ -1) : k ≠ 45 := fun e => h (by rw [e]; decide)
def zOne (b : Int → Int) (d lw : Int) (S O C : zT → zT) (z : zT) : zT := if z.1 = 0 then (if kd b z = 31 then zAd (31, min 10000 (tN b (tP b z.2.1))) (zNu b 0 9999 z) else if kd b z = 42 then zEx b 43 (S (zOp d z)) else if kd b z = 39 ∨ kd b z = 14 ∨ kd b z = 15 then zAd ((if kd b z = 39 then 48 else kd b z), 0) (O (zOp d z)) else if kd b z = 16 then C (zOp d z) else zName lw (nmK (kd b z)) z) else z
set_option maxRecDepth 20000 in
theorem ev_X3_readOne {G : gG} {l : Launch} {h0 : ph} {o s : Nat} {b : Int → Int} {n : Nat} {d : Int} {S O C : zT → zT} {fr fs fo fc : Nat} (dr : 0 ≤ d ∧ d ≤ 9) (hb : tK b (tP b n) = 45) (hlw : 0 ≤ hI h0 (o + 108) 7 ∧ hI h0 (o + 108) 7 ≤ 2) (f1 : 2 ≤ fr) (f2 : fs < fr) (f3 : fo < fr) (f4 : fc < fr) (fO : zOK O) (hS : CtS G l h0 o s b n mX3_readInside fs (d + 1) S) (hO : CtS G l h0 o s b n mX3_readOneInside fo (d + 1) O) (hC : CtS G l h0 o s b n mX3_readChoice fc (d + 1) C) : CtS G l h0 o s b n mX3_readOne fr d (zOne b d (hI h0 (o + 108) 7) S O C) := by
  intro h z H hw hd
  have rd := dr
  have hf := H.fl
  have hn := H.rs.2.1
  have he := H.e6
  have hK := H.rs.2.2.2.1 z.2.1
  have kk : tK b (tP b z.2.1) = kd b z := rfl
  have W0 : zW z 0 := fun q => hw q
  have nr := nmK_rg (kd b z)
  refine ev_of (ls := [some (.ref (o + 108)), some (vI d), none]) (by decide +kernel) (Nat.le_of_ble_eq_true rfl) rfl ?_
  refine co_aload_n dX3_readOne_0 rfl ?_
  refine r_getI dX3_readOne_1 H.rs.1.R.1 ?_
  refine co_if_eq (tgt := 8) dX3_readOne_4 rfl (by omega) (fun c4 => ?_) (fun c4 => ?_)
  · refine co_aload_n dX3_readOne_8 rfl ?_
    refine c_vI dX3_readOne_9 (ev_X3_kind H.rs) (by omega) H.rs.1.R.1 rfl rfl (Nat.le_of_ble_eq_true rfl) ?_
    rw [kk]
    refine s_istore_n (ls' := [_, _, _]) dX3_readOne_12 (Nat.le_of_ble_eq_true rfl) rfl rfl ?_
    refine co_iload_n dX3_readOne_13 rfl ?_
    refine co_bipush (z := 31) dX3_readOne_14 rfl ?_
    refine co_icmp_ne (tgt := 40) dX3_readOne_16 rfl (by omega) (by omega) (fun c16 => ?_) (fun c16 => ?_)
    · refine co_iload_n dX3_readOne_40 rfl ?_
      refine co_bipush (z := 42) dX3_readOne_41 rfl ?_
      refine co_icmp_ne (tgt := 67) dX3_readOne_43 rfl (by omega) (by omega) (fun c43 => ?_) (fun c43 => ?_)
      · refine co_iload_n dX3_readOne_67 rfl ?_
        refine co_bipush (z := 39) dX3_readOne_68 rfl ?_
        refine co_icmp_eq (tgt := 85) dX3_readOne_70 rfl (by omega) (by omega) (fun c70 => ?_) (fun c70 => ?_)
        · refine co_aload_n dX3_readOne_85 rfl ?_
          refine co_iload_n dX3_readOne_86 rfl ?_
          have z0 : z.1 = 0 := by omega
          refine c_vQ dX3_readOne_87 (ez_open H (by omega) hb (by omega)) (by omega) H.rs.1.R.1 rfl rfl (Nat.le_of_ble_eq_true rfl) (fun r9 g1 q9 => ?_)
          obtain ⟨rfl, H1⟩ := q9
          simp only [Option.toList, List.cons_append, List.nil_append]
          have W1 : zW (zOp d z) 1 := W0.Op
          have D1 := zOp_n (d := d) z0
          refine co_aload_n dX3_readOne_90 rfl ?_
          refine co_iload_n dX3_readOne_91 rfl ?_
          refine co_iconst dX3_readOne_92 ?_
          refine co_iadd dX3_readOne_93 ?_
          refine c_vQ dX3_readOne_94 (hO _ _ H1 (fun q => by have := W1 q; omega) D1) (by omega) H1.rs.1.R.1 rfl rfl (Nat.le_of_ble_eq_true rfl) (fun r9 g2 q9 => ?_)
          obtain ⟨rfl, H2⟩ := q9
          simp only [Option.toList, List.cons_append, List.nil_append]
          have W2 : zW (O (zOp d z)) 1 := W1.F fO
          refine co_aload_n dX3_readOne_97 rfl ?_
          refine r_getR dX3_readOne_98 H2.rs.1.R.1 H2.rD ?_
          refine co_iload_n dX3_readOne_101 rfl ?_
          refine co_bipush (z := 39) dX3_readOne_102 rfl ?_
          refine co_icmp_ne (tgt := 112) dX3_readOne_104 rfl (by omega) (by omega) (fun c104 => ?_) (fun c104 => ?_)
          · refine co_iload_n dX3_readOne_112 rfl ?_
            refine co_iconst dX3_readOne_113 ?_
            refine c_vQ dX3_readOne_114 (ez_add H2 (H2.l3 W2)) (by omega) H2.iS.ob rfl rfl (Nat.le_of_ble_eq_true rfl) (fun r9 g3 q9 => ?_)
            obtain ⟨rfl, H3⟩ := q9
            simp only [Option.toList, List.cons_append, List.nil_append]
            
            refine co_pop dX3_readOne_117 rfl ?_
            refine co_goto (tgt := 150) dX3_readOne_118 rfl ?_
            refine co_return dX3_readOne_150 rfl ?_
            unfold zOne
            rw [if_pos z0, if_neg (by omega), if_neg (by omega), if_pos (by omega), if_neg (by omega)]
            exact ⟨rfl, H3⟩
          · refine co_bipush (z := 48) dX3_readOne_107 rfl ?_
            refine co_goto (tgt := 113) dX3_readOne_109 rfl ?_
            refine co_iconst dX3_readOne_113 ?_
            refine c_vQ dX3_readOne_114 (ez_add H2 (H2.l3 W2)) (by omega) H2.iS.ob rfl rfl (Nat.le_of_ble_eq_true rfl) (fun r9 g3 q9 => ?_)
            obtain ⟨rfl, H3⟩ := q9
            simp only [Option.toList, List.cons_append, List.nil_append]
            
            refine co_pop dX3_readOne_117 rfl ?_
            refine co_goto (tgt := 150) dX3_readOne_118 rfl ?_
            refine co_return dX3_readOne_150 rfl ?_
            unfold zOne
            rw [if_pos z0, if_neg (by omega), if_neg (by omega), if_pos (by omega), if_pos (by omega)]
            exact ⟨rfl, H3⟩
        · refine co_iload_n dX3_readOne_73 rfl ?_
          refine co_bipush (z := 14) dX3_readOne_74 rfl ?_
          refine co_icmp_eq (tgt := 85) dX3_readOne_76 rfl (by omega) (by omega) (fun c76 => ?_) (fun c76 => ?_)
          · refine co_aload_n dX3_readOne_85 rfl ?_
            refine co_iload_n dX3_readOne_86 rfl ?_
            have z0 : z.1 = 0 := by omega
            refine c_vQ dX3_readOne_87 (ez_open H (by omega) hb (by omega)) (by omega) H.rs.1.R.1 rfl rfl (Nat.le_of_ble_eq_true rfl) (fun r9 g1 q9 => ?_)
            obtain ⟨rfl, H1⟩ := q9
            simp only [Option.toList, List.cons_append, List.nil_append]
            have W1 : zW (zOp d z) 1 := W0.Op
            have D1 := zOp_n (d := d) z0
            refine co_aload_n dX3_readOne_90 rfl ?_
            refine co_iload_n dX3_readOne_91 rfl ?_
            refine co_iconst dX3_readOne_92 ?_
            refine co_iadd dX3_readOne_93 ?_
            refine c_vQ dX3_readOne_94 (hO _ _ H1 (fun q => by have := W1 q; omega) D1) (by omega) H1.rs.1.R.1 rfl rfl (Nat.le_of_ble_eq_true rfl) (fun r9 g2 q9 => ?_)
            obtain ⟨rfl, H2⟩ := q9
            simp only [Option.toList, List.cons_append, List.nil_append]
            have W2 : zW (O (zOp d z)) 1 := W1.F fO
            refine co_aload_n dX3_readOne_97 rfl ?_
            refine r_getR dX3_readOne_98 H2.rs.1.R.1 H2.rD ?_
            refine co_iload_n dX3_readOne_101 rfl ?_
            refine co_bipush (z := 39) dX3_readOne_102 rfl ?_
            refine co_icmp_ne (tgt := 112) dX3_readOne_104 rfl (by omega) (by omega) (fun c104 => ?_) (fun c104 => ?_)
            · refine co_iload_n dX3_readOne_112 rfl ?_
              refine co_iconst dX3_readOne_113 ?_
              refine c_vQ dX3_readOne_114 (ez_add H2 (H2.l3 W2)) (by omega) H2.iS.ob rfl rfl (Nat.le_of_ble_eq_true rfl) (fun r9 g3 q9 => ?_)
              obtain ⟨rfl, H3⟩ := q9
              simp only [Option.toList, List.cons_append, List.nil_append]
              
              refine co_pop dX3_readOne_117 rfl ?_
              refine co_goto (tgt := 150) dX3_readOne_118 rfl ?_
              refine co_return dX3_readOne_150 rfl ?_
              unfold zOne
              rw [if_pos z0, if_neg (by omega), if_neg (by omega), if_pos (by omega), if_neg (by omega)]
              exact ⟨rfl, H3⟩
            · refine co_bipush (z := 48) dX3_readOne_107 rfl ?_
              refine co_goto (tgt := 113) dX3_readOne_109 rfl ?_
              refine co_iconst dX3_readOne_113 ?_
              refine c_vQ dX3_readOne_114 (ez_add H2 (H2.l3 W2)) (by omega) H2.iS.ob rfl rfl (Nat.le_of_ble_eq_true rfl) (fun r9 g3 q9 => ?_)
              obtain ⟨rfl, H3⟩ := q9
              simp only [Option.toList, List.cons_append, List.nil_append]
              
              refine co_pop dX3_readOne_117 rfl ?_
              refine co_goto (tgt := 150) dX3_readOne_118 rfl ?_
              refine co_return dX3_readOne_150 rfl ?_
              unfold zOne
              rw [if_pos z0, if_neg (by omega), if_neg (by omega), if_pos (by omega), if_pos (by omega)]
              exact ⟨rfl, H3⟩
          · refine co_iload_n dX3_readOne_79 rfl ?_
            refine co_bipush (z := 15) dX3_readOne_80 rfl ?_
            refine co_icmp_ne (tgt := 121) dX3_readOne_82 rfl (by omega) (by omega) (fun c82 => ?_) (fun c82 => ?_)
            · refine co_iload_n dX3_readOne_121 rfl ?_
              refine co_bipush (z := 16) dX3_readOne_122 rfl ?_
              refine co_icmp_ne (tgt := 142) dX3_readOne_124 rfl (by omega) (by omega) (fun c124 => ?_) (fun c124 => ?_)
              · refine co_aload_n dX3_readOne_142 rfl ?_
                refine co_iload_n dX3_readOne_143 rfl ?_
                refine c_sI dX3_readOne_144 (ev_X3_nameOf (by omega)) (by omega) rfl rfl (Nat.le_of_ble_eq_true rfl) ?_
                have z0 : z.1 = 0 := by omega
                refine c_vQ dX3_readOne_147 (ev_X3_readName H nr z0 (hw z0) hb nmK_45 hlw) (by omega) H.rs.1.R.1 rfl rfl (Nat.le_of_ble_eq_true rfl) (fun r9 g1 q9 => ?_)
                obtain ⟨rfl, H1⟩ := q9
                simp only [Option.toList, List.cons_append, List.nil_append]
                
                refine co_return dX3_readOne_150 rfl ?_
                unfold zOne
                rw [if_pos z0, if_neg (by omega), if_neg (by omega), if_neg (by omega), if_neg (by omega)]
                exact ⟨rfl, H1⟩
              · refine co_aload_n dX3_readOne_127 rfl ?_
                refine co_iload_n dX3_readOne_128 rfl ?_
                have z0 : z.1 = 0 := by omega
                refine c_vQ dX3_readOne_129 (ez_open H (by omega) hb (by omega)) (by omega) H.rs.1.R.1 rfl rfl (Nat.le_of_ble_eq_true rfl) (fun r9 g1 q9 => ?_)
                obtain ⟨rfl, H1⟩ := q9
                simp only [Option.toList, List.cons_append, List.nil_append]
                have W1 : zW (zOp d z) 1 := W0.Op
                have D1 := zOp_n (d := d) z0
                refine co_aload_n dX3_readOne_132 rfl ?_
                refine co_iload_n dX3_readOne_133 rfl ?_
                refine co_iconst dX3_readOne_134 ?_
                refine co_iadd dX3_readOne_135 ?_
                refine c_vQ dX3_readOne_136 (hC _ _ H1 (fun q => by have := W1 q; omega) D1) (by omega) H1.rs.1.R.1 rfl rfl (Nat.le_of_ble_eq_true rfl) (fun r9 g2 q9 => ?_)
                obtain ⟨rfl, H2⟩ := q9
                simp only [Option.toList, List.cons_append, List.nil_append]
                
                refine co_goto (tgt := 150) dX3_readOne_139 rfl ?_
                refine co_return dX3_readOne_150 rfl ?_
                unfold zOne
                rw [if_pos z0, if_neg (by omega), if_neg (by omega), if_neg (by omega), if_pos (by omega)]
                exact ⟨rfl, H2⟩
            · refine co_aload_n dX3_readOne_85 rfl ?_
              refine co_iload_n dX3_readOne_86 rfl ?_
              have z0 : z.1 = 0 := by omega
              refine c_vQ dX3_readOne_87 (ez_open H (by omega) hb (by omega)) (by omega) H.rs.1.R.1 rfl rfl (Nat.le_of_ble_eq_true rfl) (fun r9 g1 q9 => ?_)
              obtain ⟨rfl, H1⟩ := q9
              simp only [Option.toList, List.cons_append, List.nil_append]
              have W1 : zW (zOp d z) 1 := W0.Op
              have D1 := zOp_n (d := d) z0
              refine co_aload_n dX3_readOne_90 rfl ?_
              refine co_iload_n dX3_readOne_91 rfl ?_
              refine co_iconst dX3_readOne_92 ?_
              refine co_iadd dX3_readOne_93 ?_
              refine c_vQ dX3_readOne_94 (hO _ _ H1 (fun q => by have := W1 q; omega) D1) (by omega) H1.rs.1.R.1 rfl rfl (Nat.le_of_ble_eq_true rfl) (fun r9 g2 q9 => ?_)
              obtain ⟨rfl, H2⟩ := q9
              simp only [Option.toList, List.cons_append, List.nil_append]
              have W2 : zW (O (zOp d z)) 1 := W1.F fO
              refine co_aload_n dX3_readOne_97 rfl ?_
              refine r_getR dX3_readOne_98 H2.rs.1.R.1 H2.rD ?_
              refine co_iload_n dX3_readOne_101 rfl ?_
              refine co_bipush (z := 39) dX3_readOne_102 rfl ?_
              refine co_icmp_ne (tgt := 112) dX3_readOne_104 rfl (by omega) (by omega) (fun c104 => ?_) (fun c104 => ?_)
              · refine co_iload_n dX3_readOne_112 rfl ?_
                refine co_iconst dX3_readOne_113 ?_
                refine c_vQ dX3_readOne_114 (ez_add H2 (H2.l3 W2)) (by omega) H2.iS.ob rfl rfl (Nat.le_of_ble_eq_true rfl) (fun r9 g3 q9 => ?_)
                obtain ⟨rfl, H3⟩ := q9
                simp only [Option.toList, List.cons_append, List.nil_append]
                
                refine co_pop dX3_readOne_117 rfl ?_
                refine co_goto (tgt := 150) dX3_readOne_118 rfl ?_
                refine co_return dX3_readOne_150 rfl ?_
                unfold zOne
                rw [if_pos z0, if_neg (by omega), if_neg (by omega), if_pos (by omega), if_neg (by omega)]
                exact ⟨rfl, H3⟩
              · refine co_bipush (z := 48) dX3_readOne_107 rfl ?_
                refine co_goto (tgt := 113) dX3_readOne_109 rfl ?_
                refine co_iconst dX3_readOne_113 ?_
                refine c_vQ dX3_readOne_114 (ez_add H2 (H2.l3 W2)) (by omega) H2.iS.ob rfl rfl (Nat.le_of_ble_eq_true rfl) (fun r9 g3 q9 => ?_)
                obtain ⟨rfl, H3⟩ := q9
                simp only [Option.toList, List.cons_append, List.nil_append]
                
                refine co_pop dX3_readOne_117 rfl ?_
                refine co_goto (tgt := 150) dX3_readOne_118 rfl ?_
                refine co_return dX3_readOne_150 rfl ?_
                unfold zOne
                rw [if_pos z0, if_neg (by omega), if_neg (by omega), if_pos (by omega), if_pos (by omega)]
                exact ⟨rfl, H3⟩
      · refine co_aload_n dX3_readOne_46 rfl ?_
        refine co_iload_n dX3_readOne_47 rfl ?_
        have z0 : z.1 = 0 := by omega
        refine c_vQ dX3_readOne_48 (ez_open H (by omega) hb (by omega)) (by omega) H.rs.1.R.1 rfl rfl (Nat.le_of_ble_eq_true rfl) (fun r9 g1 q9 => ?_)
        obtain ⟨rfl, H1⟩ := q9
        simp only [Option.toList, List.cons_append, List.nil_append]
        have W1 : zW (zOp d z) 1 := W0.Op
        have D1 := zOp_n (d := d) z0
        refine co_aload_n dX3_readOne_51 rfl ?_
        refine co_iload_n dX3_readOne_52 rfl ?_
        refine co_iconst dX3_readOne_53 ?_
        refine co_iadd dX3_readOne_54 ?_
        refine c_vQ dX3_readOne_55 (hS _ _ H1 (fun q => by have := W1 q; omega) D1) (by omega) H1.rs.1.R.1 rfl rfl (Nat.le_of_ble_eq_true rfl) (fun r9 g2 q9 => ?_)
        obtain ⟨rfl, H2⟩ := q9
        simp only [Option.toList, List.cons_append, List.nil_append]
        
        refine co_aload_n dX3_readOne_58 rfl ?_
        refine co_bipush (z := 43) dX3_readOne_59 rfl ?_
        refine c_vQ dX3_readOne_61 (ez_exp H2 (by decide) hb (by decide)) (by omega) H2.rs.1.R.1 rfl rfl (Nat.le_of_ble_eq_true rfl) (fun r9 g3 q9 => ?_)
        obtain ⟨rfl, H3⟩ := q9
        simp only [Option.toList, List.cons_append, List.nil_append]
        
        refine co_goto (tgt := 150) dX3_readOne_64 rfl ?_
        refine co_return dX3_readOne_150 rfl ?_
        unfold zOne
        rw [if_pos z0, if_neg (by omega), if_pos (by omega)]
        exact ⟨rfl, H3⟩
    · refine co_aload_n dX3_readOne_19 rfl ?_
      refine r_getR dX3_readOne_20 H.rs.1.R.1 H.rD ?_
      refine co_bipush (z := 31) dX3_readOne_23 rfl ?_
      refine co_aload_n dX3_readOne_25 rfl ?_
      refine co_iconst dX3_readOne_26 ?_
      refine co_sipush (z := 9999) dX3_readOne_27 rfl ?_
      have z0 : z.1 = 0 := by omega
      refine c_vQ dX3_readOne_30 (ez_num H (by decide) (by decide) hb) (by omega) H.rs.1.R.1 rfl rfl (Nat.le_of_ble_eq_true rfl) (fun r9 g1 q9 => ?_)
      obtain ⟨⟨v, rfl, hv, hv2⟩, H1⟩ := q9
      simp only [Option.toList, List.cons_append, List.nil_append]
      have W1 : zW (zNu b 0 9999 z) 1 := W0.Nu
      have ev := hv2 (by omega)
      subst ev
      refine c_vQ dX3_readOne_33 (ez_add H1 (H1.l3 W1)) (by omega) H1.iS.ob rfl rfl (Nat.le_of_ble_eq_true rfl) (fun r9 g2 q9 => ?_)
      obtain ⟨rfl, H2⟩ := q9
      simp only [Option.toList, List.cons_append, List.nil_append]
      
      refine co_pop dX3_readOne_36 rfl ?_
      refine co_goto (tgt := 150) dX3_readOne_37 rfl ?_
      refine co_return dX3_readOne_150 rfl ?_
      unfold zOne
      rw [if_pos z0, if_pos (by omega)]
      exact ⟨rfl, H2⟩
  · refine co_return dX3_readOne_7 rfl ?_
    unfold zOne
    rw [if_neg (by omega)]
    exact ⟨rfl, H⟩
