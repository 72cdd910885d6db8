-- ===== each call of the two =====
theorem ite2 {P : Prop} [Decidable P] {f g : Int → Int} {c : Int} (h : P → f 2 = c) (k : g 2 = c) : (if P then f else g) 2 = c := by
  split
  · exact h (by assumption)
  · exact k
theorem pif2 {P : Prop} {f g : Int → Int} {c : Int} (h : P → f 2 = c) (k : g 2 = c) : (pif P f g) 2 = c := by
  by_cases q : P
  · rw [pif_t q]; exact h q
  · rw [pif_f q]; exact k
theorem mPld_2 {sm : smT} {w : Int} {tx : Int → Int} {t : Int} : ∀ (n : Nat) (i : Int) (a : Int → Int), IA a → (mPld sm w tx t n i a).2 2 = a 2 := by
  intro n
  induction n with
  | zero => intro i a _; rfl
  | succ n ih =>
    intro i a hA
    have := IA_mPl (sm := sm) (w := w) hA (tx (705 * t + 1 + 4 * i)) (tx (705 * t + 1 + 4 * i + 1)) (tx (705 * t + 1 + 4 * i + 2))
    rw [mPld]
    split
    · exact this.2
    · rw [ih _ _ this.1]; exact this.2
section TWS
variable {G : gG} {l : Launch} {h : ph} {o r s : Nat} {sm : smT}
theorem tw_horse {x : Int} {y : Int} (R : RR h o r sm s) (rx : -2147483648 ≤ x ∧ x ≤ 2147483647) (ry : -2147483648 ≤ y ∧ y ≤ 2147483647) : Two G l mX10_horse 2 mX11_horse 1 o r [vI x, vI y] h := by
  have hA := R.2.1.2.1.tr.ia
  have h0 := hA.nh
  have h1 := hA.nb
  have h4 := hA.ns
  have n5 := hA.n5
  have n6 := hA.n6
  have n7 := hA.n7
  have n8 := hA.n8
  refine tw_of R ?e (ev_xb R ?e (ev_X10_horse R.2.1.1 R.2.1.2.1 rx ry)) (fun h1 f ea et er => ?k)
  case e => exact ite2 (fun _ => by unfold mHorse; simp (disch := omega) only [u1_n]) rfl
  case k =>
    have hA1 : IA (hI h1 (r + 1)) := by rw [ea]; exact hA
    have t := ev_ka (ev_X11_horse (G := G) (l := l) f.1 hA1 rx ry)
    rw [ea] at t
    exact t
theorem tw_boy {x : Int} (R : RR h o r sm s) (rx : -2147483648 ≤ x ∧ x ≤ 2147483647) : Two G l mX10_boy 2 mX11_boy 1 o r [vI x] h := by
  have hA := R.2.1.2.1.tr.ia
  have h0 := hA.nh
  have h1 := hA.nb
  have h4 := hA.ns
  have n5 := hA.n5
  have n6 := hA.n6
  have n7 := hA.n7
  have n8 := hA.n8
  refine tw_of R ?e (ev_xb R ?e (ev_X10_boy R.2.1.1 R.2.1.2.1 rx)) (fun h1 f ea et er => ?k)
  case e => exact ite2 (fun _ => by unfold mBoy; simp (disch := omega) only [u1_n]) rfl
  case k =>
    have hA1 : IA (hI h1 (r + 1)) := by rw [ea]; exact hA
    have t := ev_ka (ev_X11_boy (G := G) (l := l) f.1 hA1 rx)
    rw [ea] at t
    exact t
theorem tw_limit {x : Int} (R : RR h o r sm s) (rx : -2147483648 ≤ x ∧ x ≤ 2147483647) : Two G l mX10_limit 1 mX11_limit 1 o r [vI x] h := by
  have hA := R.2.1.2.1.tr.ia
  have h0 := hA.nh
  have h1 := hA.nb
  have h4 := hA.ns
  have n5 := hA.n5
  have n6 := hA.n6
  have n7 := hA.n7
  have n8 := hA.n8
  refine tw_of R ?e (ev_xb R ?e (ev_X10_limit R.2.1.1 R.2.1.2.1 rx)) (fun h1 f ea et er => ?k)
  case e => exact ite2 (fun _ => u1_n _ _ (by decide)) rfl
  case k =>
    have hA1 : IA (hI h1 (r + 1)) := by rw [ea]; exact hA
    have t := ev_ka (a := u1 (hI h1 (r + 1)) 9 x) (ev_X11_limit (G := G) (l := l) f.1 hA1 rx)
    rw [ea] at t
    exact t
theorem tw_by {x : Int} (R : RR h o r sm s) (rx : -2147483648 ≤ x ∧ x ≤ 2147483647) : Two G l mX10_by 2 mX11_by 1 o r [vI x] h := by
  have hA := R.2.1.2.1.tr.ia
  have h0 := hA.nh
  have h1 := hA.nb
  have h4 := hA.ns
  have n5 := hA.n5
  have n6 := hA.n6
  have n7 := hA.n7
  have n8 := hA.n8
  refine tw_of R ?e (ev_xb R ?e (ev_X10_by R.2.1.1 R.2.1.2.1 rx)) (fun h1 f ea et er => ?k)
  case e => exact ite2 (fun _ => u1_n _ _ (by decide)) rfl
  case k =>
    have hA1 : IA (hI h1 (r + 1)) := by rw [ea]; exact hA
    have t := ev_ka (a := u1 (hI h1 (r + 1)) 3 x) (ev_X11_by (G := G) (l := l) f.1 hA1 rx)
    rw [ea] at t
    exact t
theorem tw_heard {x : Int} {y : Int} (R : RR h o r sm s) (rx : -2147483648 ≤ x ∧ x ≤ 2147483647) (ry : -2147483648 ≤ y ∧ y ≤ 2147483647) : Two G l mX10_heard 2 mX11_heard 2 o r [vI x, vI y] h := by
  have hA := R.2.1.2.1.tr.ia
  have h0 := hA.nh
  have h1 := hA.nb
  have h4 := hA.ns
  have n5 := hA.n5
  have n6 := hA.n6
  have n7 := hA.n7
  have n8 := hA.n8
  refine tw_of R ?e (ev_xb R ?e (ev_X10_heard R.2.1.1 R.2.1.2.1 rx ry)) (fun h1 f ea et er => ?k)
  case e => exact ite2 (fun _ => u1_n _ _ (by decide)) (ite2 (fun _ => by unfold aTold2; simp (disch := omega) only [u1_n]) rfl)
  case k =>
    have hA1 : IA (hI h1 (r + 1)) := by rw [ea]; exact hA
    have t := ev_kb (b := u1 (hI h1 (r + 1)) 5 0) (ev_X11_heard (G := G) (l := l) f.1 hA1 rx ry)
    rw [ea] at t
    exact t
theorem tw_counted {x : Int} {y : Int} (R : RR h o r sm s) (rx : -2147483648 ≤ x ∧ x ≤ 2147483647) (ry : -2147483648 ≤ y ∧ y ≤ 2147483647) : Two G l mX10_counted 2 mX11_counted 2 o r [vI x, vI y] h := by
  have hA := R.2.1.2.1.tr.ia
  have h0 := hA.nh
  have h1 := hA.nb
  have h4 := hA.ns
  have n5 := hA.n5
  have n6 := hA.n6
  have n7 := hA.n7
  have n8 := hA.n8
  refine tw_of R ?e (ev_xb R ?e (ev_X10_counted R.2.1.1 R.2.1.2.1 rx ry)) (fun h1 f ea et er => ?k)
  case e => exact ite2 (fun _ => u1_n _ _ (by decide)) (ite2 (fun _ => by unfold aTold2; simp (disch := omega) only [u1_n]) rfl)
  case k =>
    have hA1 : IA (hI h1 (r + 1)) := by rw [ea]; exact hA
    have t := ev_kb (b := u1 (hI h1 (r + 1)) 8 0) (ev_X11_counted (G := G) (l := l) f.1 hA1 rx ry)
    rw [ea] at t
    exact t
theorem tw_haul {x : Int} (R : RR h o r sm s) (rx : -2147483648 ≤ x ∧ x ≤ 2147483647) : Two G l mX10_haul 2 mX11_haul 2 o r [vI x] h := by
  have hA := R.2.1.2.1.tr.ia
  have h0 := hA.nh
  have h1 := hA.nb
  have h4 := hA.ns
  have n5 := hA.n5
  have n6 := hA.n6
  have n7 := hA.n7
  have n8 := hA.n8
  refine tw_of R ?e (ev_xb R ?e (ev_X10_haul R.2.1.1 R.2.1.2.1 rx)) (fun h1 f ea et er => ?k)
  case e => exact ite2 (fun _ => u1_n _ _ (by decide)) (ite2 (fun _ => by unfold aHaul; simp (disch := omega) only [u1_n]) rfl)
  case k =>
    have hA1 : IA (hI h1 (r + 1)) := by rw [ea]; exact hA
    have t := ev_kb (b := u1 (hI h1 (r + 1)) 7 0) (ev_X11_haul (G := G) (l := l) f.1 hA1 rx)
    rw [ea] at t
    exact t
theorem tw_watch {x : Int} {y : Int} {z : Int} (R : RR h o r sm s) (rx : -2147483648 ≤ x ∧ x ≤ 2147483647) (ry : -2147483648 ≤ y ∧ y ≤ 2147483647) (rz : -2147483648 ≤ z ∧ z ≤ 2147483647) : Two G l mX10_watch 2 mX11_watch 2 o r [vI x, vI y, vI z] h := by
  have hA := R.2.1.2.1.tr.ia
  have h0 := hA.nh
  have h1 := hA.nb
  have h4 := hA.ns
  have n5 := hA.n5
  have n6 := hA.n6
  have n7 := hA.n7
  have n8 := hA.n8
  refine tw_of R ?e (ev_xb R ?e (ev_X10_watch R.2.1.1 R.2.1.2.1 rx ry rz)) (fun h1 f ea et er => ?k)
  case e => exact ite2 (fun _ => u1_n _ _ (by decide)) (ite2 (fun _ => by unfold aWatch; simp (disch := omega) only [u1_n]) rfl)
  case k =>
    have hA1 : IA (hI h1 (r + 1)) := by rw [ea]; exact hA
    have t := ev_kb (b := u1 (hI h1 (r + 1)) 6 0) (ev_X11_watch (G := G) (l := l) f.1 hA1 rx ry rz)
    rw [ea] at t
    exact t
theorem tw_mount {b : Int} {x : Int} (R : RR h o r sm s) (rb : -2147483648 ≤ b ∧ b ≤ 2147483647) (rx : -2147483648 ≤ x ∧ x ≤ 2147483647) : Two G l mX10_mount 4 mX11_mount 3 o r [vI b, vI x] h := by
  have hA := R.2.1.2.1.tr.ia
  have h0 := hA.nh
  have h1 := hA.nb
  have h4 := hA.ns
  have n5 := hA.n5
  have n6 := hA.n6
  have n7 := hA.n7
  have n8 := hA.n8
  refine tw_of R ?e (ev_xb R ?e (ev_X10_mount R.2.1.1 R.2.1.2.1 rb rx)) (fun h1 f ea et er => ?k)
  case e => exact pif2 (fun q => by have := q.1; simp (disch := omega) only [u1_n]; exact mKeep_lo h4 (by decide) (by decide)) rfl
  case k =>
    have hA1 : IA (hI h1 (r + 1)) := by rw [ea]; exact hA
    have t := ev_kp (ev_X11_mount (G := G) (l := l) f.1 hA1 rb rx)
    rw [ea] at t
    exact t
theorem tw_off {b : Int} (R : RR h o r sm s) (rb : -2147483648 ≤ b ∧ b ≤ 2147483647) : Two G l mX10_off 3 mX11_off 3 o r [vI b] h := by
  have hA := R.2.1.2.1.tr.ia
  have h0 := hA.nh
  have h1 := hA.nb
  have h4 := hA.ns
  have n5 := hA.n5
  have n6 := hA.n6
  have n7 := hA.n7
  have n8 := hA.n8
  refine tw_of R ?e (ev_xb R ?e (ev_X10_off R.2.1.1 R.2.1.2.1 rb)) (fun h1 f ea et er => ?k)
  case e => exact ite2 (fun q => by simp (disch := omega) only [u1_n]; exact mKeep_lo h4 (by decide) (by decide)) rfl
  case k =>
    have hA1 : IA (hI h1 (r + 1)) := by rw [ea]; exact hA
    have t := ev_ka (ev_X11_off (G := G) (l := l) f.1 hA1 rb)
    rw [ea] at t
    exact t
theorem tw_oil {x : Int} (R : RR h o r sm s) (rx : -2147483648 ≤ x ∧ x ≤ 2147483647) : Two G l mX10_oil 3 mX11_oil 3 o r [vI x] h := by
  have hA := R.2.1.2.1.tr.ia
  have h0 := hA.nh
  have h1 := hA.nb
  have h4 := hA.ns
  have n5 := hA.n5
  have n6 := hA.n6
  have n7 := hA.n7
  have n8 := hA.n8
  refine tw_of R ?e (ev_xb R ?e (ev_X10_oil R.2.1.1 R.2.1.2.1 rx)) (fun h1 f ea et er => ?k)
  case e => exact ite2 (fun q => by unfold aOil; simp (disch := omega) only [u1_n]; exact mKeep_lo h4 (by decide) (by decide)) rfl
  case k =>
    have hA1 : IA (hI h1 (r + 1)) := by rw [ea]; exact hA
    have t := ev_ka (ev_X11_oil (G := G) (l := l) f.1 hA1 rx)
    rw [ea] at t
    exact t
theorem tw_nail {x : Int} {y : Int} (R : RR h o r sm s) (rx : -2147483648 ≤ x ∧ x ≤ 2147483647) (ry : -2147483648 ≤ y ∧ y ≤ 2147483647) : Two G l mX10_nail 4 mX11_nail 2 o r [vI x, vI y] h := by
  have hA := R.2.1.2.1.tr.ia
  have h0 := hA.nh
  have h1 := hA.nb
  have h4 := hA.ns
  have n5 := hA.n5
  have n6 := hA.n6
  have n7 := hA.n7
  have n8 := hA.n8
  refine tw_of R ?e (ev_xb R ?e (ev_X10_nail R.2.1.1 R.2.1.2.1 rx ry)) (fun h1 f ea et er => ?k)
  case e => exact ite2 (fun q => by simp (disch := omega) only [u1_n]; exact mKeep_lo h4 (by decide) (by decide)) rfl
  case k =>
    have hA1 : IA (hI h1 (r + 1)) := by rw [ea]; exact hA
    have t := ev_ka (ev_X11_nail (G := G) (l := l) f.1 hA1 rx ry)
    rw [ea] at t
    exact t
theorem tw_undo  (R : RR h o r sm s)  : Two G l mX10_undo 2 mX11_undo 1 o r [] h := by
  have hA := R.2.1.2.1.tr.ia
  have h0 := hA.nh
  have h1 := hA.nb
  have h4 := hA.ns
  have n5 := hA.n5
  have n6 := hA.n6
  have n7 := hA.n7
  have n8 := hA.n8
  refine tw_of R ?e (ev_xb R ?e (ev_X10_undo R.2.1.1 R.2.1.2.1 )) (fun h1 f ea et er => ?k)
  case e => exact ite2 (fun _ => mUndo_lo (by decide) (by decide)) rfl
  case k =>
    have hA1 : IA (hI h1 (r + 1)) := by rw [ea]; exact hA
    have t := ev_ka (ev_X11_undo (G := G) (l := l) f.1 hA1 (by rw [ea]; exact R.2.1.2.1.ik) )
    rw [ea] at t
    exact t
theorem tw_book {i : Int} {w : Int} (R : RR h o r sm s) (ri : -2147483648 ≤ i ∧ i ≤ 2147483647) (rw : -2147483648 ≤ w ∧ w ≤ 2147483647) : Two G l mX10_book 2 mX11_book 2 o r [vI i, vI w] h := by
  have hA := R.2.1.2.1.tr.ia
  have h0 := hA.nh
  have h1 := hA.nb
  have h4 := hA.ns
  have n5 := hA.n5
  have n6 := hA.n6
  have n7 := hA.n7
  have n8 := hA.n8
  refine tw_of R ?e (ev_xi R (ev_X10_book R.2.1.1 R.2.1.2.1 ri rw)) (fun h1 f ea et er => ?k)
  case e => exact rfl
  case k =>
    have hA1 : IA (hI h1 (r + 1)) := by rw [ea]; exact hA
    have t := ev_ki (r := r) (ev_X11_book (G := G) (l := l) f.1 hA1 (by rw [ea]; exact R.2.1.2.1.2.2.2.2.2.2.2.2.2.2.2.2) ri rw)
    rw [ea] at t
    exact t
theorem tw_rocking {m : Int} (R : RR h o r sm s) (rm : -2147483648 ≤ m ∧ m ≤ 2147483647) : Two G l mX10_rocking 4 mX11_rocking 4 o r [vI m] h := by
  have hA := R.2.1.2.1.tr.ia
  have h0 := hA.nh
  have h1 := hA.nb
  have h4 := hA.ns
  have n5 := hA.n5
  have n6 := hA.n6
  have n7 := hA.n7
  have n8 := hA.n8
  refine tw_of R ?e (ev_xi R (ev_X10_rocking R.2.1.1 R.2.1.2.1 rm)) (fun h1 f ea et er => ?k)
  case e => exact rfl
  case k =>
    have hA1 : IA (hI h1 (r + 1)) := by rw [ea]; exact hA
    have t := ev_ki (r := r) (ev_X11_rocking (G := G) (l := l) f.1 hA1 rm)
    rw [ea] at t
    exact t
theorem tw_slid {x : Int} (R : RR h o r sm s) (rx : -2147483648 ≤ x ∧ x ≤ 2147483647) : Two G l mX10_slid 2 mX11_slid 2 o r [vI x] h := by
  have hA := R.2.1.2.1.tr.ia
  have h0 := hA.nh
  have h1 := hA.nb
  have h4 := hA.ns
  have n5 := hA.n5
  have n6 := hA.n6
  have n7 := hA.n7
  have n8 := hA.n8
  refine tw_of R ?e (ev_xi R (ev_X10_slid R.2.1 rx)) (fun h1 f ea et er => ?k)
  case e => exact rfl
  case k =>
    have hA1 : IA (hI h1 (r + 1)) := by rw [ea]; exact hA
    have t := ev_ki (r := r) (ev_X11_slid (G := G) (l := l) f.1 hA1 (by rw [ea]; exact R.2.1.2.1.2.2.2.2.2.2.2.2.2.2.2.2) rx)
    rw [ea] at t
    exact t
theorem tw_tiredest  (R : RR h o r sm s)  : Two G l mX10_tiredest 2 mX11_tiredest 1 o r [] h := by
  have hA := R.2.1.2.1.tr.ia
  have h0 := hA.nh
  have h1 := hA.nb
  have h4 := hA.ns
  have n5 := hA.n5
  have n6 := hA.n6
  have n7 := hA.n7
  have n8 := hA.n8
  refine tw_of R ?e (ev_xi R (ev_X10_tiredest R.2.1 )) (fun h1 f ea et er => ?k)
  case e => exact rfl
  case k =>
    have hA1 : IA (hI h1 (r + 1)) := by rw [ea]; exact hA
    have t := ev_ki (r := r) (ev_X11_tiredest (G := G) (l := l) f.1 hA1 )
    rw [ea] at t
    exact t
theorem tw_veterans {x : Int} (R : RR h o r sm s) (rx : -2147483648 ≤ x ∧ x ≤ 2147483647) : Two G l mX10_veterans 2 mX11_veterans 1 o r [vI x] h := by
  have hA := R.2.1.2.1.tr.ia
  have h0 := hA.nh
  have h1 := hA.nb
  have h4 := hA.ns
  have n5 := hA.n5
  have n6 := hA.n6
  have n7 := hA.n7
  have n8 := hA.n8
  refine tw_of R ?e (ev_xi R (ev_X10_veterans R.2.1 rx)) (fun h1 f ea et er => ?k)
  case e => exact rfl
  case k =>
    have hA1 : IA (hI h1 (r + 1)) := by rw [ea]; exact hA
    have t := ev_ki (r := r) (ev_X11_veterans (G := G) (l := l) f.1 hA1 rx)
    rw [ea] at t
    exact t
theorem tw_lonely  (R : RR h o r sm s)  : Two G l mX10_lonely 4 mX11_lonely 3 o r [] h := by
  have hA := R.2.1.2.1.tr.ia
  have h0 := hA.nh
  have h1 := hA.nb
  have h4 := hA.ns
  have n5 := hA.n5
  have n6 := hA.n6
  have n7 := hA.n7
  have n8 := hA.n8
  refine tw_of R ?e (ev_xi R (ev_X10_lonely R.2.1 )) (fun h1 f ea et er => ?k)
  case e => exact rfl
  case k =>
    have hA1 : IA (hI h1 (r + 1)) := by rw [ea]; exact hA
    have t := ev_ki (r := r) (ev_X11_lonely (G := G) (l := l) f.1 hA1 )
    rw [ea] at t
    exact t
theorem tw_together {x : Int} (R : RR h o r sm s) (rx : -2147483648 ≤ x ∧ x ≤ 2147483647) : Two G l mX10_together 3 mX11_together 3 o r [vI x] h := by
  have hA := R.2.1.2.1.tr.ia
  have h0 := hA.nh
  have h1 := hA.nb
  have h4 := hA.ns
  have n5 := hA.n5
  have n6 := hA.n6
  have n7 := hA.n7
  have n8 := hA.n8
  refine tw_of R ?e (ev_xi R (ev_X10_together R.2.1 rx)) (fun h1 f ea et er => ?k)
  case e => exact rfl
  case k =>
    have hA1 : IA (hI h1 (r + 1)) := by rw [ea]; exact hA
    have t := ev_ki (r := r) (ev_X11_together (G := G) (l := l) f.1 hA1 rx)
    rw [ea] at t
    exact t
theorem tw_inStep  (R : RR h o r sm s)  : Two G l mX10_inStep 2 mX11_inStep 1 o r [] h := by
  have hA := R.2.1.2.1.tr.ia
  have h0 := hA.nh
  have h1 := hA.nb
  have h4 := hA.ns
  have n5 := hA.n5
  have n6 := hA.n6
  have n7 := hA.n7
  have n8 := hA.n8
  refine tw_of R ?e (ev_xi R (ev_X10_inStep R.2.1 )) (fun h1 f ea et er => ?k)
  case e => exact rfl
  case k =>
    have hA1 : IA (hI h1 (r + 1)) := by rw [ea]; exact hA
    have t := ev_ki (r := r) (ev_X11_inStep (G := G) (l := l) f.1 hA1 )
    rw [ea] at t
    exact t
theorem tw_ropes {n : Int} (R : RR h o r sm s) (rn : -2147483648 ≤ n ∧ n ≤ 2147483647) : Two G l mX10_ropes 3 mX11_ropes 2 o r [vI n] h := by
  have hA := R.2.1.2.1.tr.ia
  have h0 := hA.nh
  have h1 := hA.nb
  have h4 := hA.ns
  have n5 := hA.n5
  have n6 := hA.n6
  have n7 := hA.n7
  have n8 := hA.n8
  refine tw_of R ?e (ev_xi R (ev_X10_ropes R.2.1 rn)) (fun h1 f ea et er => ?k)
  case e => exact rfl
  case k =>
    have hA1 : IA (hI h1 (r + 1)) := by rw [ea]; exact hA
    have t := ev_ki (r := r) (ev_X11_ropes (G := G) (l := l) f.1 hA1 rn)
    rw [ea] at t
    exact t
theorem tw_ofHorse {x : Int} {w : Int} (R : RR h o r sm s) (rx : -2147483648 ≤ x ∧ x ≤ 2147483647) (rw : -2147483648 ≤ w ∧ w ≤ 2147483647) : Two G l mX10_ofHorse 6 mX11_ofHorse 5 o r [vI x, vI w] h := by
  have hA := R.2.1.2.1.tr.ia
  have h0 := hA.nh
  have h1 := hA.nb
  have h4 := hA.ns
  have n5 := hA.n5
  have n6 := hA.n6
  have n7 := hA.n7
  have n8 := hA.n8
  refine tw_of R ?e (ev_X10_ofHorse R.2.1 rx rw) (fun h1 f ea et er => ?k)
  case e => exact rfl
  case k =>
    have hA1 : IA (hI h1 (r + 1)) := by rw [ea]; exact hA
    have t := ev_ks (ev_X11_ofHorse (G := G) (l := l) f.1 hA1 (Int.le_refl _) f.2.1 rx rw)
    rw [ea] at t
    exact t
theorem tw_ofBoy {x : Int} {w : Int} (R : RR h o r sm s) (rx : -2147483648 ≤ x ∧ x ≤ 2147483647) (rw : -2147483648 ≤ w ∧ w ≤ 2147483647) : Two G l mX10_ofBoy 6 mX11_ofBoy 5 o r [vI x, vI w] h := by
  have hA := R.2.1.2.1.tr.ia
  have h0 := hA.nh
  have h1 := hA.nb
  have h4 := hA.ns
  have n5 := hA.n5
  have n6 := hA.n6
  have n7 := hA.n7
  have n8 := hA.n8
  refine tw_of R ?e (ev_X10_ofBoy R.2.1 rx rw) (fun h1 f ea et er => ?k)
  case e => exact rfl
  case k =>
    have hA1 : IA (hI h1 (r + 1)) := by rw [ea]; exact hA
    have t := ev_ks (ev_X11_ofBoy (G := G) (l := l) f.1 hA1 (Int.le_refl _) f.2.1 rx rw)
    rw [ea] at t
    exact t
theorem tw_is {w : Int} (R : RR h o r sm s) (rw : -2147483648 ≤ w ∧ w ≤ 2147483647) : Two G l mX10_is 6 mX11_is 5 o r [vI w] h := by
  have hA := R.2.1.2.1.tr.ia
  have h0 := hA.nh
  have h1 := hA.nb
  have h4 := hA.ns
  have n5 := hA.n5
  have n6 := hA.n6
  have n7 := hA.n7
  have n8 := hA.n8
  refine tw_of R ?e (ev_X10_is R.2.1 rw) (fun h1 f ea et er => ?k)
  case e => exact rfl
  case k =>
    have hA1 : IA (hI h1 (r + 1)) := by rw [ea]; exact hA
    have t := ev_ks (ev_X11_is (G := G) (l := l) f.1 hA1 (Int.le_refl _) f.2.1 rw)
    rw [ea] at t
    exact t
theorem tw_show {v : Int} (R : RR h o r sm s) (rv : -2147483648 ≤ v ∧ v ≤ 2147483647) : Two G l mX10_show 6 mX11_show 5 o r [vI v] h := by
  have hA := R.2.1.2.1.tr.ia
  have h0 := hA.nh
  have h1 := hA.nb
  have h4 := hA.ns
  have n5 := hA.n5
  have n6 := hA.n6
  have n7 := hA.n7
  have n8 := hA.n8
  refine tw_of R ?e (ev_X10_show R.2.1 rv) (fun h1 f ea et er => ?k)
  case e => exact rfl
  case k =>
    have hA1 : IA (hI h1 (r + 1)) := by rw [ea]; exact hA
    have t := ev_ks (ev_X11_show (G := G) (l := l) f.1 hA1 (Int.le_refl _) f.2.1 rv)
    rw [ea] at t
    exact t
theorem tw_whose  (R : RR h o r sm s)  : Two G l mX10_whose 6 mX11_whose 5 o r [] h := by
  have hA := R.2.1.2.1.tr.ia
  have h0 := hA.nh
  have h1 := hA.nb
  have h4 := hA.ns
  have n5 := hA.n5
  have n6 := hA.n6
  have n7 := hA.n7
  have n8 := hA.n8
  refine tw_of R ?e (ev_X10_whose R.2.1 ) (fun h1 f ea et er => ?k)
  case e => exact rfl
  case k =>
    have hA1 : IA (hI h1 (r + 1)) := by rw [ea]; exact hA
    have t := ev_ks (ev_X11_whose (G := G) (l := l) f.1 hA1 (Int.le_refl _) f.2.1 (by rw [ea]; exact R.2.1.2.1.2.2.2.2.2.2.2.2.2.2.2.1) )
    rw [ea] at t
    exact t
theorem tw_foretold {n : Int} {w : Int} {x : Int} (R : RR h o r sm s) (rn : -2147483648 ≤ n ∧ n ≤ 2147483647) (rw : -2147483648 ≤ w ∧ w ≤ 2147483647) (rx : -2147483648 ≤ x ∧ x ≤ 2147483647) : Two G l mX10_foretold 8 mX11_foretold 8 o r [vI n, vI w, vI x] h := by
  have hA := R.2.1.2.1.tr.ia
  have h0 := hA.nh
  have h1 := hA.nb
  have h4 := hA.ns
  have n5 := hA.n5
  have n6 := hA.n6
  have n7 := hA.n7
  have n8 := hA.n8
  refine tw_of R ?e (ev_X10_foretold R.2.1 rn rw rx) (fun h1 f ea et er => ?k)
  case e => exact rfl
  case k =>
    have hA1 : IA (hI h1 (r + 1)) := by rw [ea]; exact hA
    have t := id (ev_X11_foretold (G := G) (l := l) f.1 hA1 (Int.le_refl _) f.2.1 f.2.2.2.2 rn rw rx)
    rw [ea] at t
    exact t
theorem tw_firstSlide  (R : RR h o r sm s)  : Two G l mX10_firstSlide 8 mX11_firstSlide 7 o r [] h := by
  have hA := R.2.1.2.1.tr.ia
  have h0 := hA.nh
  have h1 := hA.nb
  have h4 := hA.ns
  have n5 := hA.n5
  have n6 := hA.n6
  have n7 := hA.n7
  have n8 := hA.n8
  refine tw_of R ?e (ev_X10_firstSlide R.2.1 ) (fun h1 f ea et er => ?k)
  case e => exact rfl
  case k =>
    have hA1 : IA (hI h1 (r + 1)) := by rw [ea]; exact hA
    have t := id (ev_X11_firstSlide (G := G) (l := l) f.1 hA1 (Int.le_refl _) f.2.1 f.2.2.2.2 )
    rw [ea] at t
    exact t
theorem tw_unmanned  (R : RR h o r sm s)  : Two G l mX10_unmanned 8 mX11_unmanned 7 o r [] h := by
  have hA := R.2.1.2.1.tr.ia
  have h0 := hA.nh
  have h1 := hA.nb
  have h4 := hA.ns
  have n5 := hA.n5
  have n6 := hA.n6
  have n7 := hA.n7
  have n8 := hA.n8
  refine tw_of R ?e (ev_X10_unmanned R.2.1 ) (fun h1 f ea et er => ?k)
  case e => exact rfl
  case k =>
    have hA1 : IA (hI h1 (r + 1)) := by rw [ea]; exact hA
    have t := id (ev_X11_unmanned (G := G) (l := l) f.1 hA1 (Int.le_refl _) f.2.1 f.2.2.2.2 )
    rw [ea] at t
    exact t
theorem tw_safe {n : Int} {x : Int} (R : RR h o r sm s) (rn : -2147483648 ≤ n ∧ n ≤ 2147483647) (rx : -2147483648 ≤ x ∧ x ≤ 2147483647) : Two G l mX10_safe 5 mX11_safe 4 o r [vI n, vI x] h := by
  have hA := R.2.1.2.1.tr.ia
  have h0 := hA.nh
  have h1 := hA.nb
  have h4 := hA.ns
  have n5 := hA.n5
  have n6 := hA.n6
  have n7 := hA.n7
  have n8 := hA.n8
  refine tw_of R ?e (ev_X10_safe R.2.1 rn rx) (fun h1 f ea et er => ?k)
  case e => exact rfl
  case k =>
    have hA1 : IA (hI h1 (r + 1)) := by rw [ea]; exact hA
    have t := ev_ki (r := r) (ev_X11_safe (G := G) (l := l) f.1 hA1 rn rx)
    rw [ea] at t
    exact t
theorem tw_rode {w : Int} (R : RR h o r sm s) (rw : -2147483648 ≤ w ∧ w ≤ 2147483647) : Two G l mX10_rode 5 mX11_rode 4 o r [vI w] h := by
  have hA := R.2.1.2.1.tr.ia
  have h0 := hA.nh
  have h1 := hA.nb
  have h4 := hA.ns
  have n5 := hA.n5
  have n6 := hA.n6
  have n7 := hA.n7
  have n8 := hA.n8
  refine tw_of R ?e (ev_X10_rode R.2.1 rw) (fun h1 f ea et er => ?k)
  case e => exact rfl
  case k =>
    have hA1 : IA (hI h1 (r + 1)) := by rw [ea]; exact hA
    have t := id (ev_X11_rode (G := G) (l := l) f.1 hA1 (by rw [ea]; exact R.2.1.2.1.2.2.2.2.2.2.2.2.2.2.2.1) rw)
    rw [ea] at t
    exact t
theorem tw_listen {n : Int} (R : RR h o r sm s) (rn : -2147483648 ≤ n ∧ n ≤ 2147483647) : Two G l mX10_listen 5 mX11_listen 4 o r [vI n] h := by
  have hA := R.2.1.2.1.tr.ia
  have h0 := hA.nh
  have h1 := hA.nb
  have h4 := hA.ns
  have n5 := hA.n5
  have n6 := hA.n6
  have n7 := hA.n7
  have n8 := hA.n8
  refine tw_of R ?e (ev_X10_listen R.2.1 rn) (fun h1 f ea et er => ?k)
  case e => exact rfl
  case k =>
    have hA1 : IA (hI h1 (r + 1)) := by rw [ea]; exact hA
    have t := id (ev_X11_listen (G := G) (l := l) f.1 hA1 (by rw [ea]; exact R.2.1.2.1.2.2.2.2.2.2.2.2.2.2.2.1) rn)
    rw [ea] at t
    exact t
theorem tw_manned {i : Int} (R : RR h o r sm s) (ri : -2147483648 ≤ i ∧ i ≤ 2147483647) : Two G l mX10_manned 5 mX11_manned 3 o r [vI i] h := by
  have hA := R.2.1.2.1.tr.ia
  have h0 := hA.nh
  have h1 := hA.nb
  have h4 := hA.ns
  have n5 := hA.n5
  have n6 := hA.n6
  have n7 := hA.n7
  have n8 := hA.n8
  refine tw_of R ?e (ev_X10_manned R.2.1 ri) (fun h1 f ea et er => ?k)
  case e => exact rfl
  case k =>
    have hA1 : IA (hI h1 (r + 1)) := by rw [ea]; exact hA
    have t := id (ev_X11_manned (G := G) (l := l) f.1 hA1 (by rw [ea]; exact R.2.1.2.1.2.2.2.2.2.2.2.2.2.2.2.1) ri)
    rw [ea] at t
    exact t
theorem tw_minute {n : Int} (R : RR h o r sm s) (rn : -2147483648 ≤ n ∧ n ≤ 2147483647) : Two G l mX10_minute 8 mX11_minute 8 o r [vI n] h := by
  have hA := R.2.1.2.1.tr.ia
  have h0 := hA.nh
  have h1 := hA.nb
  have h4 := hA.ns
  have n5 := hA.n5
  have n6 := hA.n6
  have n7 := hA.n7
  have n8 := hA.n8
  refine tw_of R ?e (ev_X10_minute R.2.1 rn) (fun h1 f ea et er => ?k)
  case e => exact pif2 (fun _ => (IA_mPs _ _ _ hA).2) rfl
  case k =>
    have hA1 : IA (hI h1 (r + 1)) := by rw [ea]; exact hA
    have t := ev_kw (ev_X11_minute (G := G) (l := l) f.1 hA1 (Int.le_refl _) f.2.1 (Or.inr f.2.2.2.2) rn)
    rw [ea, f.2.2.2.2] at t
    exact t
theorem tw_winters {y : Int} {n : Int} (R : RR h o r sm s) (ry : -2147483648 ≤ y ∧ y ≤ 2147483647) (rn : -2147483648 ≤ n ∧ n ≤ 2147483647) : Two G l mX10_winters 8 mX11_winters 8 o r [vI y, vI n] h := by
  have hA := R.2.1.2.1.tr.ia
  have h0 := hA.nh
  have h1 := hA.nb
  have h4 := hA.ns
  have n5 := hA.n5
  have n6 := hA.n6
  have n7 := hA.n7
  have n8 := hA.n8
  refine tw_of R ?e (ev_X10_winters R.2.1 ry rn) (fun h1 f ea et er => ?k)
  case e => exact pif2 (fun q => by rw [(IA_win _ _ (IA_13 (IA_keep hA) (by have := q.1; omega))).2, u1_n _ _ (by decide)]; exact mKeep_lo h4 (by decide) (by decide)) rfl
  case k =>
    have hA1 : IA (hI h1 (r + 1)) := by rw [ea]; exact hA
    have t := ev_kw (ev_X11_winters (G := G) (l := l) f.1 hA1 (Int.le_refl _) f.2.1 (Or.inr f.2.2.2.2) ry rn)
    rw [ea, f.2.2.2.2] at t
    exact t
theorem tw_played {t : Int} (R : RR h o r sm s) (rt : -2147483648 ≤ t ∧ t ≤ 2147483647) : Two G l mX10_played 9 mX11_played 9 o r [vI t] h := by
  have hA := R.2.1.2.1.tr.ia
  have h0 := hA.nh
  have h1 := hA.nb
  have h4 := hA.ns
  have n5 := hA.n5
  have n6 := hA.n6
  have n7 := hA.n7
  have n8 := hA.n8
  refine tw_of R ?e (ev_X10_played (tx := hI h (r + 3)) R.2.1 rt (fun q hq ht => R.2.2.2.2.2.2.2 t ht q hq)) (fun h1 f ea et er => ?k)
  case e => exact pif2 (fun _ => mPld_2 _ _ _ hA) rfl
  case k =>
    have hA1 : IA (hI h1 (r + 1)) := by rw [ea]; exact hA
    have t := ev_kw (ev_X11_played (G := G) (l := l) f.1 hA1 (Int.le_refl _) f.2.1 (Or.inr f.2.2.2.2) f.2.2.1 rt)
    rw [ea, et, f.2.2.2.2] at t
    exact t
theorem tw_fault {w : Int} (R : RR h o r sm s) (rw : -2147483648 ≤ w ∧ w ≤ 2147483647) : Two G l mX10_fault 0 mX11_fault 0 o r [vI w] h := by
  have ft := R.2.2.2.2.2.1
  refine tw_of R ?e (ev_xi R (ev_X10_fault R.2.1.1 rw (by rcases ft with q | q; exact Or.inl q.1; exact Or.inr q.1))) (fun h1 f ea et er => ?k)
  case e => rfl
  case k =>
    have t := ev_ki (r := r) (ev_X11_fault (G := G) (l := l) f.1 rw)
    rw [ea, er 5, er 6] at t
    rcases ft with q | q
    · rw [q.2.1, q.2.2] at t
      rw [if_pos q.1]
      have e : (if w = 0 then (-1 : Int) else if w = 1 then -1 else -1) = -1 := by
        split
        · rfl
        · split <;> rfl
      rw [e] at t
      exact t
    · rw [if_neg (by omega), q.2.1, q.2.2]
      exact t
theorem tw_about {w : Int} (R : RR h o r sm s) (rw : -2147483648 ≤ w ∧ w ≤ 2147483647) : Two G l mX10_about 1 mX11_about 1 o r [vI w] h := by
  have hA := R.2.1.2.1.tr.ia
  have hq := R.2.2.2.1.2.2.2.1.2.2.1.1
  refine tw_of R ?e (ev_xi R (ev_X10_about R.2.1.1 R.2.1.2.1 rw)) (fun h1 f ea et er => ?k)
  case e => rfl
  case k =>
    have t := ev_ki (r := r) (ev_X11_about (G := G) (l := l) f.1 (by rw [ea]; exact hA) rw (by rw [er 4]; exact hq))
    rw [ea, er 4, ← R.2.2.2.2.1.1] at t
    exact t
theorem tw_oilings {w ds : Int} (R : RR h o r sm s) (rw : -2147483648 ≤ w ∧ w ≤ 2147483647) (hds : ds = 0 ∨ ds = 1) : Two G l mX10_oilings 3 mX11_oilings 2 o r [vI w, vI ds] h := by
  have hA := R.2.1.2.1.tr.ia
  refine tw_of R ?e (ev_xi R (ev_X10_oilings R.2.1 rw hds)) (fun h1 f ea et er => ?k)
  case e => rfl
  case k =>
    have t := ev_ki (r := r) (ev_X11_oilings (G := G) (l := l) f.1 (by rw [ea]; exact hA) (by rw [ea]; exact R.2.1.2.1.2.2.2.2.2.2.2.2.2.2.2.1) rw hds)
    rw [ea] at t
    exact t
theorem tw_below {x k t lo : Int} (R : RR h o r sm s) (rr : -2147483648 ≤ x ∧ x ≤ 2147483647) (rk : -2147483648 ≤ k ∧ k ≤ 2147483647) (rt : -2147483648 ≤ t ∧ t ≤ 2147483647) (hl : lo = 0 ∨ lo = 1) : TwoL G l mX10_below 4 mX11_below 2 o r [vI x, vI k, vI t, vI lo] h :=
  ⟨(if (1 ≤ x ∧ x ≤ 9) ∧ (0 ≤ k ∧ k ≤ 9) ∧ (0 ≤ t ∧ t ≤ 9) then mBelow x k t lo else -1), fun h1 => h1 = h, ev_X10_below R.2.1 rr rk rt hl, fun h1 e => by
    subst e
    exact ⟨R.2.2.2.1.1.1, ev_mono (ev_X11_below R.2.2.2.1.1 rr rk rt hl) (fun v h2 q => by rw [q.2]; exact ⟨q.1, sm, s, R⟩)⟩⟩
theorem tw_gale {x g k lo : Int} (R : RR h o r sm s) (rr : -2147483648 ≤ x ∧ x ≤ 2147483647) (rg : -2147483648 ≤ g ∧ g ≤ 2147483647) (rk : -2147483648 ≤ k ∧ k ≤ 2147483647) (hl : lo = 0 ∨ lo = 1) : TwoL G l mX10_gale 4 mX11_gale 2 o r [vI x, vI g, vI k, vI lo] h :=
  ⟨_, fun h1 => h1 = h, ev_X10_gale R.2.1 rr rg rk hl, fun h1 e => by
    subst e
    exact ⟨R.2.2.2.1.1.1, ev_mono (ev_X11_gale R.2.2.2.1.1 R.2.1.2.1.tr.ia rr rg rk hl) (fun v h2 q => by rw [q.2]; exact ⟨q.1, sm, s, R⟩)⟩⟩
end TWS
