set_option maxHeartbeats 4000000 in
set_option maxRecDepth 100000 in
theorem c_X10_rests_b {I : Mem} {J : Lng} {w x : Int32} (hb : pin w 10 = none ∨ pin x 2 = none) : q_E yX10_rests cX10_rests 3 (some .int) 5 [.ref 89, .int w, .int x] I J (some (.int (-2))) (upI I 89 0 0) (J) := by
  have h1 := c_X10_in (I := upI I 89 0 0) (J := J) (v := w.toInt64) (a := 0) (b := 9)
  rw [zin_pin (N := 10) (by decide)] at h1
  have h2 := c_X10_in (I := upI I 89 0 0) (J := J) (v := x.toInt64) (a := 0) (b := 1)
  rw [zin_pin (N := 2) (by decide)] at h2
  refine q_Ei me_X10_rests rfl (Nat.le_of_ble_eq_true rfl) ?_
  show q_w _ _ _ _ _ _ _ 0 [some (.ref 89), some (.int w), some (.int x)] [] I J
  refine w_aload_n dX10_rests_0 rfl ?_
  refine w_iconst (v := 0) dX10_rests_1 (by decide) ?_
  refine w_putI dX10_rests_2 f_X10_41 (by first | assumption | rfl) rfl ?_
  refine w_iload_n dX10_rests_5 rfl ?_
  refine w_i2l dX10_rests_6 ?_
  refine w_lconst (v := 0) dX10_rests_7 (by decide) ?_
  refine w_ldc2 dX10_rests_8 c_X10_119 ?_
  refine w_callSi dX10_rests_11 k_X10_45 (h1) rfl rfl rfl (Nat.le_of_ble_eq_true rfl) (by first | decide | omega) ?_
  refine w_if_eq (tgt := 27) dX10_rests_14 (by decide) (fun c_14 => ?_) (fun c_14 => ?_)
  · refine w_bipush (v := (-2)) dX10_rests_27 (by decide) ?_
    exact w_ret dX10_rests_29 ⟨rfl, rfl, rfl⟩
  · refine w_iload_n dX10_rests_17 rfl ?_
    refine w_i2l dX10_rests_18 ?_
    refine w_lconst (v := 0) dX10_rests_19 (by decide) ?_
    refine w_lconst (v := 1) dX10_rests_20 (by decide) ?_
    refine w_callSi dX10_rests_21 k_X10_45 (h2) rfl rfl rfl (Nat.le_of_ble_eq_true rfl) (by first | decide | omega) ?_
    refine w_if_ne (tgt := 30) dX10_rests_24 (by decide) (fun c_24 => ?_) (fun c_24 => ?_)
    · exfalso
      rcases hb with hb | hb
      · exact c_14 (by rw [hb]; rfl)
      · exact c_24 (by rw [hb]; rfl)
    · refine w_bipush (v := (-2)) dX10_rests_27 (by decide) ?_
      exact w_ret dX10_rests_29 ⟨rfl, rfl, rfl⟩
set_option maxHeartbeats 4000000 in
set_option maxRecDepth 100000 in
theorem c_X10_rests_l {I : Mem} {J : Lng} {N m : Nat} (hP : PW (I 92) N m) {w x : Int32} {u y : Nat} (hw : pin w 10 = some u) (hx : pin x 2 = some y) (hc : pchild (I 92) N m = false) : q_F yX10_rests cX10_rests 3 (some .int) 5 [.ref 89, .int w, .int x] I J (fun r I1 J1 => r = some (.int (-3)) ∧ J1 = J ∧ Mr MSS I I1) := by
  have h1 := c_X10_in (I := upI I 89 0 0) (J := J) (v := w.toInt64) (a := 0) (b := 9)
  rw [zin_pin (N := 10) (by decide)] at h1
  have h2 := c_X10_in (I := upI I 89 0 0) (J := J) (v := x.toInt64) (a := 0) (b := 1)
  rw [zin_pin (N := 2) (by decide)] at h2
  rw [hw] at h1
  rw [hx] at h2
  obtain ⟨hu, rfl⟩ := pin_some (by decide) hw
  obtain ⟨hy, rfl⟩ := pin_some (by decide) hx
  have hoa := c_X10_isOfAge (I := upI I 89 0 0) (J := J) (by rw [t0_92]; exact hP)
  rw [t0_92, hc] at hoa
  refine q_Fi me_X10_rests rfl (Nat.le_of_ble_eq_true rfl) ?_
  show q_w _ _ _ _ _ _ _ 0 [some (.ref 89), some (.int (nI u)), some (.int (nI y))] [] I J
  refine w_aload_n dX10_rests_0 rfl ?_
  refine w_iconst (v := 0) dX10_rests_1 (by decide) ?_
  refine w_putI dX10_rests_2 f_X10_41 (by first | assumption | rfl) rfl ?_
  refine w_iload_n dX10_rests_5 rfl ?_
  refine w_i2l dX10_rests_6 ?_
  refine w_lconst (v := 0) dX10_rests_7 (by decide) ?_
  refine w_ldc2 dX10_rests_8 c_X10_119 ?_
  refine w_callSi dX10_rests_11 k_X10_45 (h1) rfl rfl rfl (Nat.le_of_ble_eq_true rfl) (by first | decide | omega) ?_
  refine w_if_eq (tgt := 27) dX10_rests_14 (by decide) (fun c_14 => absurd c_14 (show ¬ zB true = 0 by decide)) (fun c_14 => ?_)
  refine w_iload_n dX10_rests_17 rfl ?_
  refine w_i2l dX10_rests_18 ?_
  refine w_lconst (v := 0) dX10_rests_19 (by decide) ?_
  refine w_lconst (v := 1) dX10_rests_20 (by decide) ?_
  refine w_callSi dX10_rests_21 k_X10_45 (h2) rfl rfl rfl (Nat.le_of_ble_eq_true rfl) (by first | decide | omega) ?_
  refine w_if_ne (tgt := 30) dX10_rests_24 (by decide) (fun c_24 => ?_) (fun c_24 => absurd c_24 (show ¬ zB true = 0 by decide))
  refine w_aload_n dX10_rests_30 rfl ?_
  refine w_callVF dX10_rests_31 k_X10_124 (by first | assumption | rfl) rfl (hoa) rfl rfl rfl (Nat.le_of_ble_eq_true rfl) (by first | decide | omega) (fun r_31 I_31 J_31 h_31 => ?_)
  obtain ⟨rfl, rfl, hM⟩ := h_31
  have hM2 : Mr MSS I I_31 := (Mr.rf.f (by decide)).tr (hM.mr (by decide) (by decide))
  refine w_if_ne (tgt := 40) dX10_rests_34 (by decide) (fun c_34 => absurd c_34 (fun q => q rfl)) (fun c_34 => ?_)
  refine w_bipush (v := (-3)) dX10_rests_37 (by decide) ?_
  exact w_ret dX10_rests_39 ⟨_, rfl, rfl, rfl, hM2⟩
set_option maxHeartbeats 4000000 in
set_option maxRecDepth 100000 in
theorem c_X10_rests {I : Mem} {J : Lng} {N m : Nat} (hP : PW (I 92) N m) {w x : Int32} {u y : Nat} (hw : pin w 10 = some u) (hx : pin x 2 = some y) (hc : pchild (I 92) N m = true) : q_F yX10_rests cX10_rests 3 (some .int) 5 [.ref 89, .int w, .int x] I J (fun r I1 J1 => r = some (.int (if y = 0 then (mra (nI u) 5 0 (0, -9)).1 else (mra (nI u) 5 0 (0, -9)).2)) ∧ J1 = J ∧ Mr MSS I I1) := by
  have h1 := c_X10_in (I := upI I 89 0 0) (J := J) (v := w.toInt64) (a := 0) (b := 9)
  rw [zin_pin (N := 10) (by decide)] at h1
  have h2 := c_X10_in (I := upI I 89 0 0) (J := J) (v := x.toInt64) (a := 0) (b := 1)
  rw [zin_pin (N := 2) (by decide)] at h2
  rw [hw] at h1
  rw [hx] at h2
  obtain ⟨hu, rfl⟩ := pin_some (by decide) hw
  obtain ⟨hy, rfl⟩ := pin_some (by decide) hx
  have hoa := c_X10_isOfAge (I := upI I 89 0 0) (J := J) (by rw [t0_92]; exact hP)
  rw [t0_92, hc] at hoa
  refine q_Fi me_X10_rests rfl (Nat.le_of_ble_eq_true rfl) ?_
  show q_w _ _ _ _ _ _ _ 0 [some (.ref 89), some (.int (nI u)), some (.int (nI y))] [] I J
  refine w_aload_n dX10_rests_0 rfl ?_
  refine w_iconst (v := 0) dX10_rests_1 (by decide) ?_
  refine w_putI dX10_rests_2 f_X10_41 (by first | assumption | rfl) rfl ?_
  refine w_iload_n dX10_rests_5 rfl ?_
  refine w_i2l dX10_rests_6 ?_
  refine w_lconst (v := 0) dX10_rests_7 (by decide) ?_
  refine w_ldc2 dX10_rests_8 c_X10_119 ?_
  refine w_callSi dX10_rests_11 k_X10_45 (h1) rfl rfl rfl (Nat.le_of_ble_eq_true rfl) (by first | decide | omega) ?_
  refine w_if_eq (tgt := 27) dX10_rests_14 (by decide) (fun c_14 => absurd c_14 (show ¬ zB true = 0 by decide)) (fun c_14 => ?_)
  refine w_iload_n dX10_rests_17 rfl ?_
  refine w_i2l dX10_rests_18 ?_
  refine w_lconst (v := 0) dX10_rests_19 (by decide) ?_
  refine w_lconst (v := 1) dX10_rests_20 (by decide) ?_
  refine w_callSi dX10_rests_21 k_X10_45 (h2) rfl rfl rfl (Nat.le_of_ble_eq_true rfl) (by first | decide | omega) ?_
  refine w_if_ne (tgt := 30) dX10_rests_24 (by decide) (fun c_24 => ?_) (fun c_24 => absurd c_24 (show ¬ zB true = 0 by decide))
  refine w_aload_n dX10_rests_30 rfl ?_
  refine w_callVF dX10_rests_31 k_X10_124 (by first | assumption | rfl) rfl (hoa) rfl rfl rfl (Nat.le_of_ble_eq_true rfl) (by first | decide | omega) (fun r_31 I_31 J_31 h_31 => ?_)
  obtain ⟨rfl, rfl, hM⟩ := h_31
  have hM2 : Mr MSS I I_31 := (Mr.rf.f (by decide)).tr (hM.mr (by decide) (by decide))
  refine w_if_ne (tgt := 40) dX10_rests_34 (by decide) (fun c_34 => ?_) (fun c_34 => absurd c_34 (show ¬ zB true = 0 by decide))
  refine w_aload_n dX10_rests_40 rfl ?_
  refine w_iload_n dX10_rests_41 rfl ?_
  refine w_callVv dX10_rests_42 k_X10_158 (by first | assumption | rfl) rfl (c_X10_findRests) rfl rfl rfl (Nat.le_of_ble_eq_true rfl) (by first | decide | omega) ?_
  refine w_iload_n dX10_rests_45 rfl ?_
  refine w_if_ne (tgt := 56) dX10_rests_46 (by decide) (fun c_46 => ?_) (fun c_46 => ?_)
  · refine w_aload_n dX10_rests_56 rfl ?_
    refine w_getI dX10_rests_57 f_X10_151 (by first | assumption | rfl) rfl ?_
    have hy0 : ¬ y = 0 := fun e => c_46 (by rw [e]; rfl)
    exact w_ret dX10_rests_60 ⟨_, rfl, by rw [if_neg hy0, mrI_21], rfl, (hM2.f (by decide)).f (by decide)⟩
  · refine w_aload_n dX10_rests_49 rfl ?_
    refine w_getI dX10_rests_50 f_X10_148 (by first | assumption | rfl) rfl ?_
    refine w_goto (tgt := 60) dX10_rests_53 (by decide) ?_
    have hy0 : y = 0 := nI_inj (by omega) (by decide) c_46
    exact w_ret dX10_rests_60 ⟨_, rfl, by rw [if_pos hy0, mrI_20], rfl, (hM2.f (by decide)).f (by decide)⟩
theorem rest_eq : ∀ u, u < 10 → (mra (nI u) 5 0 (0, -9)).1 = zca (nI u) 5 0 0 ∧ (mra (nI u) 5 0 (0, -9)).2 = zfa (nI u) 5 0 := by decide +kernel
