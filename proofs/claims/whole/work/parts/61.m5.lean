set_option maxHeartbeats 4000000 in
set_option maxRecDepth 100000 in
theorem c_X10_bear_u {I : Mem} {J : Lng} {N m : Nat} (hP : PW (I 92) N m) {p w : Int32} (hp : pin p N = none) : q_E yX10_bear cX10_bear 4 (some .int) 2 [.ref 89, .int p, .int w] I J (some (.int (-1))) (upI I 89 0 0) (J) := by
  have hnp := c_X10_noPerson (I := upI I 89 0 0) (J := J) (N := N) (by rw [t0_92]; exact hP.1) hP.2.1 (p := p)
  rw [hp] at hnp
  refine q_Ei me_X10_bear rfl (Nat.le_of_ble_eq_true rfl) ?_
  show q_w _ _ _ _ _ _ _ 0 [some (.ref 89), some (.int p), some (.int w), none] [] I J
  refine w_aload_n dX10_bear_0 rfl ?_
  refine w_iconst (v := 0) dX10_bear_1 (by decide) ?_
  refine w_putI dX10_bear_2 f_X10_41 (by first | assumption | rfl) rfl ?_
  refine w_aload_n dX10_bear_5 rfl ?_
  refine w_iload_n dX10_bear_6 rfl ?_
  refine w_callVi dX10_bear_7 k_X10_104 (by first | assumption | rfl) rfl (hnp) rfl rfl rfl (Nat.le_of_ble_eq_true rfl) (by first | decide | omega) ?_
  refine w_if_eq (tgt := 15) dX10_bear_10 (by decide) (fun c_10 => absurd c_10 (show ¬ zB true = 0 by decide)) (fun c_10 => ?_)
  refine w_iconst (v := (-1)) dX10_bear_13 (by decide) ?_
  exact w_ret dX10_bear_14 ⟨rfl, rfl, rfl⟩
set_option maxHeartbeats 4000000 in
set_option maxRecDepth 100000 in
theorem c_X10_bear_b {I : Mem} {J : Lng} {N m : Nat} (hP : PW (I 92) N m) {p w : Int32} {j : Nat} (hp : pin p N = some j) (hw : pin w 2 = none) : q_E yX10_bear cX10_bear 4 (some .int) 2 [.ref 89, .int p, .int w] I J (some (.int (-2))) (upI I 89 0 0) (J) := by
  have hnp := c_X10_noPerson (I := upI I 89 0 0) (J := J) (N := N) (by rw [t0_92]; exact hP.1) hP.2.1 (p := p)
  rw [hp] at hnp
  have h7 := hP.2.1
  obtain ⟨hj, rfl⟩ := pin_some (by omega) hp
  have hm := p2_128 h7 hP.2.2.2.1
  have h0 : I 92 0 = nI m := hP.2.2.1
  have hha := c_X10_has (I := upI I 89 0 0) (J := J) (s := nI m) (k := nI j)
  rw [mI_bit m hm j (by omega)] at hha
  have hin := c_X10_in (I := upI I 89 0 0) (J := J) (v := w.toInt64) (a := 0) (b := 1)
  rw [zin_pin (N := 2) (by decide), hw] at hin
  refine q_Ei me_X10_bear rfl (Nat.le_of_ble_eq_true rfl) ?_
  show q_w _ _ _ _ _ _ _ 0 [some (.ref 89), some (.int (nI j)), some (.int w), none] [] I J
  refine w_aload_n dX10_bear_0 rfl ?_
  refine w_iconst (v := 0) dX10_bear_1 (by decide) ?_
  refine w_putI dX10_bear_2 f_X10_41 (by first | assumption | rfl) rfl ?_
  refine w_aload_n dX10_bear_5 rfl ?_
  refine w_iload_n dX10_bear_6 rfl ?_
  refine w_callVi dX10_bear_7 k_X10_104 (by first | assumption | rfl) rfl (hnp) rfl rfl rfl (Nat.le_of_ble_eq_true rfl) (by first | decide | omega) ?_
  refine w_if_eq (tgt := 15) dX10_bear_10 (by decide) (fun c_10 => ?_) (fun c_10 => absurd (rfl : zB false = 0) c_10)
  refine w_iload_n dX10_bear_15 rfl ?_
  refine w_i2l dX10_bear_16 ?_
  refine w_lconst (v := 0) dX10_bear_17 (by decide) ?_
  refine w_lconst (v := 1) dX10_bear_18 (by decide) ?_
  refine w_callSi dX10_bear_19 k_X10_45 (hin) rfl rfl rfl (Nat.le_of_ble_eq_true rfl) (by first | decide | omega) ?_
  refine w_if_ne (tgt := 28) dX10_bear_22 (by decide) (fun c_22 => absurd c_22 (fun q => q rfl)) (fun c_22 => ?_)
  refine w_bipush (v := (-2)) dX10_bear_25 (by decide) ?_
  exact w_ret dX10_bear_27 ⟨rfl, rfl, rfl⟩
set_option maxHeartbeats 4000000 in
set_option maxRecDepth 100000 in
theorem c_X10_bear_l {I : Mem} {J : Lng} {N m : Nat} (hP : PW (I 92) N m) {p w : Int32} {j b : Nat} (hp : pin p N = some j) (hw : pin w 2 = some b) (hb : m.testBit j = false) : q_E yX10_bear cX10_bear 4 (some .int) 2 [.ref 89, .int p, .int w] I J (some (.int (-3))) (upI I 89 0 0) (J) := by
  have hnp := c_X10_noPerson (I := upI I 89 0 0) (J := J) (N := N) (by rw [t0_92]; exact hP.1) hP.2.1 (p := p)
  rw [hp] at hnp
  have h7 := hP.2.1
  obtain ⟨hj, rfl⟩ := pin_some (by omega) hp
  have hm := p2_128 h7 hP.2.2.2.1
  have h0 : I 92 0 = nI m := hP.2.2.1
  have hha := c_X10_has (I := upI I 89 0 0) (J := J) (s := nI m) (k := nI j)
  rw [mI_bit m hm j (by omega)] at hha
  have hin := c_X10_in (I := upI I 89 0 0) (J := J) (v := w.toInt64) (a := 0) (b := 1)
  rw [zin_pin (N := 2) (by decide), hw] at hin
  rw [hb] at hha
  refine q_Ei me_X10_bear rfl (Nat.le_of_ble_eq_true rfl) ?_
  show q_w _ _ _ _ _ _ _ 0 [some (.ref 89), some (.int (nI j)), some (.int w), none] [] I J
  refine w_aload_n dX10_bear_0 rfl ?_
  refine w_iconst (v := 0) dX10_bear_1 (by decide) ?_
  refine w_putI dX10_bear_2 f_X10_41 (by first | assumption | rfl) rfl ?_
  refine w_aload_n dX10_bear_5 rfl ?_
  refine w_iload_n dX10_bear_6 rfl ?_
  refine w_callVi dX10_bear_7 k_X10_104 (by first | assumption | rfl) rfl (hnp) rfl rfl rfl (Nat.le_of_ble_eq_true rfl) (by first | decide | omega) ?_
  refine w_if_eq (tgt := 15) dX10_bear_10 (by decide) (fun c_10 => ?_) (fun c_10 => absurd (rfl : zB false = 0) c_10)
  refine w_iload_n dX10_bear_15 rfl ?_
  refine w_i2l dX10_bear_16 ?_
  refine w_lconst (v := 0) dX10_bear_17 (by decide) ?_
  refine w_lconst (v := 1) dX10_bear_18 (by decide) ?_
  refine w_callSi dX10_bear_19 k_X10_45 (hin) rfl rfl rfl (Nat.le_of_ble_eq_true rfl) (by first | decide | omega) ?_
  refine w_if_ne (tgt := 28) dX10_bear_22 (by decide) (fun c_22 => ?_) (fun c_22 => absurd c_22 (show ¬ zB true = 0 by decide))
  refine w_aload_n dX10_bear_28 rfl ?_
  refine w_getR dX10_bear_29 f_X10_16 (by first | assumption | rfl) rfl rfl ?_
  refine w_iconst (v := 0) dX10_bear_32 (by decide) ?_
  refine w_iald (j := 0) dX10_bear_33 (by first | assumption | rfl) rfl rfl (by decide) (by decide) ?_
  rw [t0_92, h0]
  refine w_iload_n dX10_bear_34 rfl ?_
  refine w_callSi dX10_bear_35 k_X10_82 (hha) rfl rfl rfl (Nat.le_of_ble_eq_true rfl) (by first | decide | omega) ?_
  refine w_if_ne (tgt := 44) dX10_bear_38 (by decide) (fun c_38 => absurd c_38 (fun q => q rfl)) (fun c_38 => ?_)
  refine w_bipush (v := (-3)) dX10_bear_41 (by decide) ?_
  exact w_ret dX10_bear_43 ⟨rfl, rfl, rfl⟩
set_option maxHeartbeats 4000000 in
set_option maxRecDepth 100000 in
theorem c_X10_bear_f {I : Mem} {J : Lng} {N m : Nat} (hP : PW (I 92) N m) {p w : Int32} {j b : Nat} (hp : pin p N = some j) (hw : pin w 2 = some b) (hb : m.testBit j = true) (hN : N = 7) : q_E yX10_bear cX10_bear 4 (some .int) 2 [.ref 89, .int p, .int w] I J (some (.int (-4))) (upI I 89 0 0) (J) := by
  have hnp := c_X10_noPerson (I := upI I 89 0 0) (J := J) (N := N) (by rw [t0_92]; exact hP.1) hP.2.1 (p := p)
  rw [hp] at hnp
  have h7 := hP.2.1
  obtain ⟨hj, rfl⟩ := pin_some (by omega) hp
  have hm := p2_128 h7 hP.2.2.2.1
  have h0 : I 92 0 = nI m := hP.2.2.1
  have hha := c_X10_has (I := upI I 89 0 0) (J := J) (s := nI m) (k := nI j)
  rw [mI_bit m hm j (by omega)] at hha
  have hin := c_X10_in (I := upI I 89 0 0) (J := J) (v := w.toInt64) (a := 0) (b := 1)
  rw [zin_pin (N := 2) (by decide), hw] at hin
  rw [hb] at hha
  have h6 : I 92 6 = 7 := by rw [hP.1, hN]; rfl
  refine q_Ei me_X10_bear rfl (Nat.le_of_ble_eq_true rfl) ?_
  show q_w _ _ _ _ _ _ _ 0 [some (.ref 89), some (.int (nI j)), some (.int w), none] [] I J
  refine w_aload_n dX10_bear_0 rfl ?_
  refine w_iconst (v := 0) dX10_bear_1 (by decide) ?_
  refine w_putI dX10_bear_2 f_X10_41 (by first | assumption | rfl) rfl ?_
  refine w_aload_n dX10_bear_5 rfl ?_
  refine w_iload_n dX10_bear_6 rfl ?_
  refine w_callVi dX10_bear_7 k_X10_104 (by first | assumption | rfl) rfl (hnp) rfl rfl rfl (Nat.le_of_ble_eq_true rfl) (by first | decide | omega) ?_
  refine w_if_eq (tgt := 15) dX10_bear_10 (by decide) (fun c_10 => ?_) (fun c_10 => absurd (rfl : zB false = 0) c_10)
  refine w_iload_n dX10_bear_15 rfl ?_
  refine w_i2l dX10_bear_16 ?_
  refine w_lconst (v := 0) dX10_bear_17 (by decide) ?_
  refine w_lconst (v := 1) dX10_bear_18 (by decide) ?_
  refine w_callSi dX10_bear_19 k_X10_45 (hin) rfl rfl rfl (Nat.le_of_ble_eq_true rfl) (by first | decide | omega) ?_
  refine w_if_ne (tgt := 28) dX10_bear_22 (by decide) (fun c_22 => ?_) (fun c_22 => absurd c_22 (show ¬ zB true = 0 by decide))
  refine w_aload_n dX10_bear_28 rfl ?_
  refine w_getR dX10_bear_29 f_X10_16 (by first | assumption | rfl) rfl rfl ?_
  refine w_iconst (v := 0) dX10_bear_32 (by decide) ?_
  refine w_iald (j := 0) dX10_bear_33 (by first | assumption | rfl) rfl rfl (by decide) (by decide) ?_
  rw [t0_92, h0]
  refine w_iload_n dX10_bear_34 rfl ?_
  refine w_callSi dX10_bear_35 k_X10_82 (hha) rfl rfl rfl (Nat.le_of_ble_eq_true rfl) (by first | decide | omega) ?_
  refine w_if_ne (tgt := 44) dX10_bear_38 (by decide) (fun c_38 => ?_) (fun c_38 => absurd c_38 (show ¬ zB true = 0 by decide))
  refine w_aload_n dX10_bear_44 rfl ?_
  refine w_getR dX10_bear_45 f_X10_16 (by first | assumption | rfl) rfl rfl ?_
  refine w_bipush (v := 6) dX10_bear_48 (by decide) ?_
  refine w_iald (j := 6) dX10_bear_50 (by first | assumption | rfl) rfl rfl (by decide) (by decide) ?_
  rw [t0_92]
  refine w_bipush (v := 7) dX10_bear_51 (by decide) ?_
  refine w_icmp_ne (tgt := 59) dX10_bear_53 (by decide) (fun c_53 => absurd c_53 (fun q => q h6)) (fun c_53 => ?_)
  refine w_bipush (v := (-4)) dX10_bear_56 (by decide) ?_
  exact w_ret dX10_bear_58 ⟨rfl, rfl, rfl⟩
theorem shl_b : ∀ b, b < 2 → ∀ n, n < 7 → ∀ x : Int32, x ||| (nI b <<< (nI n &&& 31)) = cond (decide (b = 1)) (x ||| (1 <<< (nI n &&& 31))) x := by
  intro b hb n hn x
  rcases (show b = 0 ∨ b = 1 by omega) with rfl | rfl
  · have h : ∀ n, n < 7 → nI 0 <<< (nI n &&& 31) = (0 : Int32) := by decide
    rw [h n hn, Int32.or_zero]; rfl
  · rfl
theorem bear_eq {a : Nat → Int32} {N : Nat} {par v0 v14 v6 : Int32} (hN : N < 7) : upd (upd (upd (upd (upd a 6 v6) (7 + N) par) 14 v14) (15 + N) 0) 0 v0 = upd (upd (upd (upd (upd a (7 + N) par) (15 + N) 0) 0 v0) 14 v14) 6 v6 := by
  funext k
  unfold upd
  repeat' split
  all_goals first | rfl | omega
set_option maxHeartbeats 4000000 in
set_option maxRecDepth 100000 in
theorem c_X10_bear {I : Mem} {J : Lng} {N m : Nat} (hP : PW (I 92) N m) {z : Nat} (hz : I 89 11 = nI z) (hz2 : z ≤ 14) {p w : Int32} {j b : Nat} (hp : pin p N = some j) (hw : pin w 2 = some b) (hb : m.testBit j = true) (hN : N < 7) : q_F yX10_bear cX10_bear 4 (some .int) 2 [.ref 89, .int p, .int w] I J (fun r I1 J1 => r = some (.int (nI N)) ∧ J1 = J ∧ I1 92 = pgain (I 92) N (nI j) (decide (b = 1)) 0 ∧ Mr MSL (znt (upI I 89 0 0) z) I1) := by
  have hnp := c_X10_noPerson (I := upI I 89 0 0) (J := J) (N := N) (by rw [t0_92]; exact hP.1) hP.2.1 (p := p)
  rw [hp] at hnp
  have h7 := hP.2.1
  obtain ⟨hj, rfl⟩ := pin_some (by omega) hp
  have hm := p2_128 h7 hP.2.2.2.1
  have h0 : I 92 0 = nI m := hP.2.2.1
  have hha := c_X10_has (I := upI I 89 0 0) (J := J) (s := nI m) (k := nI j)
  rw [mI_bit m hm j (by omega)] at hha
  have hin := c_X10_in (I := upI I 89 0 0) (J := J) (v := w.toInt64) (a := 0) (b := 1)
  rw [zin_pin (N := 2) (by decide), hw] at hin
  rw [hb] at hha
  have h6 : I 92 6 = nI N := hP.1
  obtain ⟨hb2, rfl⟩ := pin_some (by decide) hw
  have hnt := c_X10_note (I := upI I 89 0 0) (J := J) (t0_z hz) hz2
  have h92 : (znt (upI I 89 0 0) z) 92 = I 92 := (znt_92 _ _).trans t0_92
  refine q_Fi me_X10_bear rfl (Nat.le_of_ble_eq_true rfl) ?_
  show q_w _ _ _ _ _ _ _ 0 [some (.ref 89), some (.int (nI j)), some (.int (nI b)), none] [] I J
  refine w_aload_n dX10_bear_0 rfl ?_
  refine w_iconst (v := 0) dX10_bear_1 (by decide) ?_
  refine w_putI dX10_bear_2 f_X10_41 (by first | assumption | rfl) rfl ?_
  refine w_aload_n dX10_bear_5 rfl ?_
  refine w_iload_n dX10_bear_6 rfl ?_
  refine w_callVi dX10_bear_7 k_X10_104 (by first | assumption | rfl) rfl (hnp) rfl rfl rfl (Nat.le_of_ble_eq_true rfl) (by first | decide | omega) ?_
  refine w_if_eq (tgt := 15) dX10_bear_10 (by decide) (fun c_10 => ?_) (fun c_10 => absurd (rfl : zB false = 0) c_10)
  refine w_iload_n dX10_bear_15 rfl ?_
  refine w_i2l dX10_bear_16 ?_
  refine w_lconst (v := 0) dX10_bear_17 (by decide) ?_
  refine w_lconst (v := 1) dX10_bear_18 (by decide) ?_
  refine w_callSi dX10_bear_19 k_X10_45 (hin) rfl rfl rfl (Nat.le_of_ble_eq_true rfl) (by first | decide | omega) ?_
  refine w_if_ne (tgt := 28) dX10_bear_22 (by decide) (fun c_22 => ?_) (fun c_22 => absurd c_22 (show ¬ zB true = 0 by decide))
  refine w_aload_n dX10_bear_28 rfl ?_
  refine w_getR dX10_bear_29 f_X10_16 (by first | assumption | rfl) rfl rfl ?_
  refine w_iconst (v := 0) dX10_bear_32 (by decide) ?_
  refine w_iald (j := 0) dX10_bear_33 (by first | assumption | rfl) rfl rfl (by decide) (by decide) ?_
  rw [t0_92, h0]
  refine w_iload_n dX10_bear_34 rfl ?_
  refine w_callSi dX10_bear_35 k_X10_82 (hha) rfl rfl rfl (Nat.le_of_ble_eq_true rfl) (by first | decide | omega) ?_
  refine w_if_ne (tgt := 44) dX10_bear_38 (by decide) (fun c_38 => ?_) (fun c_38 => absurd c_38 (show ¬ zB true = 0 by decide))
  refine w_aload_n dX10_bear_44 rfl ?_
  refine w_getR dX10_bear_45 f_X10_16 (by first | assumption | rfl) rfl rfl ?_
  refine w_bipush (v := 6) dX10_bear_48 (by decide) ?_
  refine w_iald (j := 6) dX10_bear_50 (by first | assumption | rfl) rfl rfl (by decide) (by decide) ?_
  rw [t0_92, h6]
  refine w_bipush (v := 7) dX10_bear_51 (by decide) ?_
  refine w_icmp_ne (tgt := 59) dX10_bear_53 (by decide) (fun c_53 => ?_) (fun c_53 => absurd c_53 (fun e => absurd (nI_inj (b := 7) (by omega) (by decide) e) (by omega)))
  refine w_aload_n dX10_bear_59 rfl ?_
  refine w_callVv dX10_bear_60 k_X10_112 (by first | assumption | rfl) rfl (hnt) rfl rfl rfl (Nat.le_of_ble_eq_true rfl) (by first | decide | omega) ?_
  refine w_aload_n dX10_bear_63 rfl ?_
  refine w_getR dX10_bear_64 f_X10_16 (by first | assumption | rfl) rfl rfl ?_
  refine w_bipush (v := 6) dX10_bear_67 (by decide) ?_
  refine w_iald (j := 6) dX10_bear_69 (by first | assumption | rfl) rfl rfl (by decide) (by decide) ?_
  rw [h92, h6]
  refine w_istore_n dX10_bear_70 (by decide) rfl ?_
  refine w_aload_n dX10_bear_71 rfl ?_
  refine w_getR dX10_bear_72 f_X10_16 (by first | assumption | rfl) rfl rfl ?_
  refine w_bipush (v := 6) dX10_bear_75 (by decide) ?_
  refine w_dup2 dX10_bear_77 rfl rfl ?_
  refine w_iald (j := 6) dX10_bear_78 (by first | assumption | rfl) rfl rfl (by decide) (by decide) ?_
  rw [h92, h6]
  refine w_iconst (v := 1) dX10_bear_79 (by decide) ?_
  refine w_iadd dX10_bear_80 ?_
  rw [nI_1]
  refine w_iast (j := 6) dX10_bear_81 (by first | assumption | rfl) rfl rfl (by decide) (by decide) ?_
  refine w_aload_n dX10_bear_82 rfl ?_
  refine w_getR dX10_bear_83 f_X10_16 (by first | assumption | rfl) rfl rfl ?_
  refine w_bipush (v := 7) dX10_bear_86 (by decide) ?_
  refine w_iload_n dX10_bear_88 rfl ?_
  refine w_iadd dX10_bear_89 ?_
  refine w_iload_n dX10_bear_90 rfl ?_
  refine w_iast (j := (7 + N)) dX10_bear_91 (by first | assumption | rfl) rfl ix_7 (show 7 + N < 22 by omega) (by decide) ?_
  refine w_aload_n dX10_bear_92 rfl ?_
  refine w_getR dX10_bear_93 f_X10_16 (by first | assumption | rfl) rfl rfl ?_
  refine w_bipush (v := 14) dX10_bear_96 (by decide) ?_
  refine w_dup2 dX10_bear_98 rfl rfl ?_
  refine w_iald (j := 14) dX10_bear_99 (by first | assumption | rfl) rfl rfl (by decide) (by decide) ?_
  rw [upI_tf (show 14 ≠ 7 + N by omega), upI_tf (by decide), h92]
  refine w_iload_n dX10_bear_100 rfl ?_
  refine w_iload_n dX10_bear_101 rfl ?_
  refine w_ishl dX10_bear_102 ?_
  skip
  refine w_ior dX10_bear_103 ?_
  refine w_iast (j := 14) dX10_bear_104 (by first | assumption | rfl) rfl rfl (by decide) (by decide) ?_
  refine w_aload_n dX10_bear_105 rfl ?_
  refine w_getR dX10_bear_106 f_X10_16 (by first | assumption | rfl) rfl rfl ?_
  refine w_bipush (v := 15) dX10_bear_109 (by decide) ?_
  refine w_iload_n dX10_bear_111 rfl ?_
  refine w_iadd dX10_bear_112 ?_
  refine w_iconst (v := 0) dX10_bear_113 (by decide) ?_
  refine w_iast (j := (15 + N)) dX10_bear_114 (by first | assumption | rfl) rfl ix_15 (show 15 + N < 22 by omega) (by decide) ?_
  refine w_aload_n dX10_bear_115 rfl ?_
  refine w_getR dX10_bear_116 f_X10_16 (by first | assumption | rfl) rfl rfl ?_
  refine w_iconst (v := 0) dX10_bear_119 (by decide) ?_
  refine w_dup2 dX10_bear_120 rfl rfl ?_
  refine w_iald (j := 0) dX10_bear_121 (by first | assumption | rfl) rfl rfl (by decide) (by decide) ?_
  rw [upI_tf (show 0 ≠ 15 + N by omega), upI_tf (by decide), upI_tf (show 0 ≠ 7 + N by omega), upI_tf (by decide), h92]
  refine w_iconst (v := 1) dX10_bear_122 (by decide) ?_
  refine w_iload_n dX10_bear_123 rfl ?_
  refine w_ishl dX10_bear_124 ?_
  refine w_ior dX10_bear_125 ?_
  refine w_iast (j := 0) dX10_bear_126 (by first | assumption | rfl) rfl rfl (by decide) (by decide) ?_
  refine w_iload_n dX10_bear_127 rfl ?_
  refine w_ret dX10_bear_128 ⟨_, rfl, rfl, rfl, ?_, ((((Mr.rf.up (by decide) (by decide)).up (by decide) (by decide)).up (by decide) (by decide)).up (by decide) (by decide)).up (by decide) (by decide)⟩
  rw [upI_self, upI_self, upI_self, upI_self, upI_self, h92, bear_eq hN, shl_b b hb2 N hN]
  rfl
theorem pold_s {a : Nat → Int32} {k : Nat} : upd (pold a k) (15 + k) (pold a k (15 + k) + 1) = pold a (k + 1) := by
  funext i
  unfold upd pold
  by_cases h : i = 15 + k
  · rw [if_pos h, if_neg (by omega), if_pos (by omega), h]
  · rw [if_neg h]
    by_cases h2 : 15 ≤ i ∧ i < 15 + k
    · rw [if_pos h2, if_pos (by omega)]
    · rw [if_neg h2, if_neg (by omega)]
theorem pold_0 {a : Nat → Int32} : pold a 0 = a := by funext i; unfold pold; rw [if_neg (by omega)]
theorem pold_lo {a : Nat → Int32} {k i : Nat} (h : i < 15) : pold a k i = a i := by unfold pold; rw [if_neg (by omega)]
theorem tim1 : ∀ t, t < 10 → ¬ (9 : Int32) ≤ nI t → nI t + 1 = if nI t + 1 < 9 then nI t + 1 else 9 := by decide
theorem tim0 : ∀ t, t < 10 → (9 : Int32) ≤ nI t → nI t + 0 = if nI t + 1 < 9 then nI t + 1 else 9 := by decide
set_option maxHeartbeats 4000000 in
set_option maxRecDepth 100000 in
theorem l_X10_tens {I : Mem} {J : Lng} {N t : Nat} (hN : I 92 6 = nI N) (h7 : N ≤ 7) (ht : I 92 3 = nI t) (h10 : t < 10) : ∀ (r k : Nat), N - k = r → k ≤ N → q_w yX10_tens.cls yX10_tens.name cX10_tens 2 .ireturn 1 (fun st I2 J1 => st = [.int (I 92 5 + 1)] ∧ I2 = upR I 92 (pgrow (I 92) N) ∧ J1 = J) 11 [some (.ref 89), some (.int (nI k))] [] (upR I 92 (pold (I 92) k)) (J) := by
  intro r
  induction r with
  | zero =>
    intro k hr hk
    obtain rfl : k = N := by omega
    have e6 : (upR I 92 (pold (I 92) k)) 92 6 = nI k := by rw [upR_t, pold_lo (by decide)]; exact hN
    have e3 : (upR I 92 (pold (I 92) k)) 92 3 = nI t := by rw [upR_t, pold_lo (by decide)]; exact ht
    have e5 : ∀ v, (upI (upR I 92 (pold (I 92) k)) 92 3 v) 92 5 = I 92 5 := fun v => by rw [upI_tf (by decide), upR_t, pold_lo (by decide)]
    refine w_iload_n dX10_tens_11 rfl ?_
    refine w_aload_n dX10_tens_12 rfl ?_
    refine w_getR dX10_tens_13 f_X10_16 (by first | assumption | rfl) rfl rfl ?_
    refine w_bipush (v := 6) dX10_tens_16 (by decide) ?_
    refine w_iald (j := 6) dX10_tens_18 (by first | assumption | rfl) rfl rfl (by decide) (by decide) ?_
    refine w_icmp_ge (tgt := 41) dX10_tens_19 (by decide) (fun c_19 => ?_) (fun c_19 => absurd (by rw [e6]; exact Int32.le_refl _) c_19)
    refine w_aload_n dX10_tens_41 rfl ?_
    refine w_getR dX10_tens_42 f_X10_16 (by first | assumption | rfl) rfl rfl ?_
    refine w_iconst (v := 3) dX10_tens_45 (by decide) ?_
    refine w_dup2 dX10_tens_46 rfl rfl ?_
    refine w_iald (j := 3) dX10_tens_47 (by first | assumption | rfl) rfl rfl (by decide) (by decide) ?_
    rw [e3]
    refine w_aload_n dX10_tens_48 rfl ?_
    refine w_getR dX10_tens_49 f_X10_16 (by first | assumption | rfl) rfl rfl ?_
    refine w_iconst (v := 3) dX10_tens_52 (by decide) ?_
    refine w_iald (j := 3) dX10_tens_53 (by first | assumption | rfl) rfl rfl (by decide) (by decide) ?_
    rw [e3]
    refine w_bipush (v := 9) dX10_tens_54 (by decide) ?_
    refine w_icmp_ge (tgt := 63) dX10_tens_56 (by decide) (fun c_56 => ?_) (fun c_56 => ?_)
    · refine w_iconst (v := 0) dX10_tens_63 (by decide) ?_
      refine w_iadd dX10_tens_64 ?_
      refine w_iast (j := 3) dX10_tens_65 (by first | assumption | rfl) rfl rfl (by decide) (by decide) ?_
      refine w_aload_n dX10_tens_66 rfl ?_
      refine w_getR dX10_tens_67 f_X10_16 (by first | assumption | rfl) rfl rfl ?_
      refine w_iconst (v := 5) dX10_tens_70 (by decide) ?_
      refine w_dup2 dX10_tens_71 rfl rfl ?_
      refine w_iald (j := 5) dX10_tens_72 (by first | assumption | rfl) rfl rfl (by decide) (by decide) ?_
      rw [e5]
      refine w_iconst (v := 1) dX10_tens_73 (by decide) ?_
      refine w_iadd dX10_tens_74 ?_
      refine w_iast (j := 5) dX10_tens_75 (by first | assumption | rfl) rfl rfl (by decide) (by decide) ?_
      refine w_aload_n dX10_tens_76 rfl ?_
      refine w_getR dX10_tens_77 f_X10_16 (by first | assumption | rfl) rfl rfl ?_
      refine w_iconst (v := 5) dX10_tens_80 (by decide) ?_
      refine w_iald (j := 5) dX10_tens_81 (by first | assumption | rfl) rfl rfl (by decide) (by decide) ?_
      refine w_ret dX10_tens_82 ⟨?_, ?_, rfl⟩
      · rw [upI_tt]
      · rw [upI_upR, upI_upR]
        unfold pgrow
        rw [ht, ← tim0 t h10 c_56]
    · refine w_iconst (v := 1) dX10_tens_59 (by decide) ?_
      refine w_goto (tgt := 64) dX10_tens_60 (by decide) ?_
      refine w_iadd dX10_tens_64 ?_
      refine w_iast (j := 3) dX10_tens_65 (by first | assumption | rfl) rfl rfl (by decide) (by decide) ?_
      refine w_aload_n dX10_tens_66 rfl ?_
      refine w_getR dX10_tens_67 f_X10_16 (by first | assumption | rfl) rfl rfl ?_
      refine w_iconst (v := 5) dX10_tens_70 (by decide) ?_
      refine w_dup2 dX10_tens_71 rfl rfl ?_
      refine w_iald (j := 5) dX10_tens_72 (by first | assumption | rfl) rfl rfl (by decide) (by decide) ?_
      rw [e5]
      refine w_iconst (v := 1) dX10_tens_73 (by decide) ?_
      refine w_iadd dX10_tens_74 ?_
      refine w_iast (j := 5) dX10_tens_75 (by first | assumption | rfl) rfl rfl (by decide) (by decide) ?_
      refine w_aload_n dX10_tens_76 rfl ?_
      refine w_getR dX10_tens_77 f_X10_16 (by first | assumption | rfl) rfl rfl ?_
      refine w_iconst (v := 5) dX10_tens_80 (by decide) ?_
      refine w_iald (j := 5) dX10_tens_81 (by first | assumption | rfl) rfl rfl (by decide) (by decide) ?_
      refine w_ret dX10_tens_82 ⟨?_, ?_, rfl⟩
      · rw [upI_tt]
      · rw [upI_upR, upI_upR]
        unfold pgrow
        rw [ht, ← tim1 t h10 c_56]
  | succ r ih =>
    intro k hr hk
    have e6 : (upR I 92 (pold (I 92) k)) 92 6 = nI N := by rw [upR_t, pold_lo (by decide)]; exact hN
    refine w_iload_n dX10_tens_11 rfl ?_
    refine w_aload_n dX10_tens_12 rfl ?_
    refine w_getR dX10_tens_13 f_X10_16 (by first | assumption | rfl) rfl rfl ?_
    refine w_bipush (v := 6) dX10_tens_16 (by decide) ?_
    refine w_iald (j := 6) dX10_tens_18 (by first | assumption | rfl) rfl rfl (by decide) (by decide) ?_
    refine w_icmp_ge (tgt := 41) dX10_tens_19 (by decide) (fun c_19 => absurd c_19 (by rw [e6]; exact nI_ge (by omega) (by omega))) (fun c_19 => ?_)
    refine w_aload_n dX10_tens_22 rfl ?_
    refine w_getR dX10_tens_23 f_X10_16 (by first | assumption | rfl) rfl rfl ?_
    refine w_bipush (v := 15) dX10_tens_26 (by decide) ?_
    refine w_iload_n dX10_tens_28 rfl ?_
    refine w_iadd dX10_tens_29 ?_
    refine w_dup2 dX10_tens_30 rfl rfl ?_
    refine w_iald (j := (15 + k)) dX10_tens_31 (by first | assumption | rfl) rfl ix_15 (show 15 + k < 22 by omega) (by decide) ?_
    refine w_iconst (v := 1) dX10_tens_32 (by decide) ?_
    refine w_iadd dX10_tens_33 ?_
    refine w_iast (j := (15 + k)) dX10_tens_34 (by first | assumption | rfl) rfl ix_15 (show 15 + k < 22 by omega) (by decide) ?_
    refine w_iincv (c := 1) dX10_tens_35 (by decide) rfl (by decide) rfl ?_
    refine w_goto (tgt := 11) dX10_tens_38 (by decide) ?_
    refine w_show (L2 := _) (st2 := _) (I2 := upR I 92 (pold (I 92) (k + 1))) (J2 := J) ?_ rfl rfl ?_ rfl
    · rw [nI_1]
      exact ih (k + 1) (by omega) (by omega)
    · rw [upI_upR, upR_t, pold_s]
set_option maxHeartbeats 4000000 in
set_option maxRecDepth 100000 in
theorem c_X10_tens {I : Mem} {J : Lng} {N m : Nat} (hP : PW (I 92) N m) {z : Nat} (hz : I 89 11 = nI z) (hz2 : z ≤ 14) : q_E yX10_tens cX10_tens 2 (some .int) 1 [.ref 89] I J (some (.int (I 92 5 + 1))) (upR (znt (upI I 89 0 0) z) 92 (pgrow (I 92) N)) (J) := by
  have hnt := c_X10_note (I := upI I 89 0 0) (J := J) (t0_z hz) hz2
  have h92 : (znt (upI I 89 0 0) z) 92 = I 92 := (znt_92 _ _).trans t0_92
  obtain ⟨t, h10, h3⟩ := hP.2.2.2.2.2.2.2.1
  refine q_Ei me_X10_tens rfl (Nat.le_of_ble_eq_true rfl) ?_
  show q_w _ _ _ _ _ _ _ 0 [some (.ref 89), none] [] I J
  refine w_aload_n dX10_tens_0 rfl ?_
  refine w_iconst (v := 0) dX10_tens_1 (by decide) ?_
  refine w_putI dX10_tens_2 f_X10_41 (by first | assumption | rfl) rfl ?_
  refine w_aload_n dX10_tens_5 rfl ?_
  refine w_callVv dX10_tens_6 k_X10_112 (by first | assumption | rfl) rfl (hnt) rfl rfl rfl (Nat.le_of_ble_eq_true rfl) (by first | decide | omega) ?_
  refine w_iconst (v := 0) dX10_tens_9 (by decide) ?_
  refine w_istore_n dX10_tens_10 (by decide) rfl ?_
  refine w_show (L2 := _) (st2 := _) (I2 := upR (znt (upI I 89 0 0) z) 92 (pold ((znt (upI I 89 0 0) z) 92) 0)) (J2 := J) ?_ rfl rfl (by rw [pold_0, upR_id]) rfl
  have := l_X10_tens (I := znt (upI I 89 0 0) z) (J := J) (by rw [h92]; exact hP.1) hP.2.1 (by rw [h92]; exact h3) h10 N 0 rfl (Nat.zero_le _)
  rw [h92] at this ⊢
  exact this
