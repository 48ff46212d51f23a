theorem ix_22 {z k : Nat} : (22 : Int32) * nI z + nI k = nI (22 * z + k) := by rw [show (22 : Int32) * nI z = nI (22 * z) from pk_mul 22 z, nI_add]
/-- the page is written into the book -/
def znt (I : Mem) (z : Nat) : Mem := upI (upR (if z = 14 then upI (upR I 94 (cpy (I 94) (I 94) 0 22 286)) 89 11 (nI 13) else I) 94 (cpy ((if z = 14 then upI (upR I 94 (cpy (I 94) (I 94) 0 22 286)) 89 11 (nI 13) else I) 94) (I 92) (22 * rz z) 0 22)) 89 11 (nI (rz z + 1))
set_option maxHeartbeats 4000000 in
set_option maxRecDepth 100000 in
theorem l_X10_note2 {I : Mem} {J : Lng} {z : Nat} (hz : I 89 11 = nI z) (hz2 : z < 14) : ∀ (r k : Nat), 22 - k = r → k ≤ 22 → q_w yX10_note.cls yX10_note.name cX10_note 2 .return_ 0 (fun st I2 J1 => st = [] ∧ I2 = upI (upR I 94 (cpy (I 94) (I 92) (22 * z) 0 22)) 89 11 (nI (z + 1)) ∧ J1 = J) 51 [some (.ref 89), some (.int (nI k))] [] (upR I 94 (cpy (I 94) (I 92) (22 * z) 0 k)) (J) := by
  intro r
  induction r with
  | zero =>
    intro k hr hk
    obtain rfl : k = 22 := by omega
    have e11 : (upR I 94 (cpy (I 94) (I 92) (22 * z) 0 22)) 89 11 = nI z := by rw [upR_ne (by decide)]; exact hz
    refine w_iload_n dX10_note_51 rfl ?_
    refine w_bipush (v := 22) dX10_note_52 (by decide) ?_
    refine w_icmp_ge (tgt := 83) dX10_note_54 (by decide) (fun c_54 => ?_) (fun c_54 => absurd (show (22 : Int32) ≤ nI 22 by decide) c_54)
    refine w_aload_n dX10_note_83 rfl ?_
    refine w_dup dX10_note_84 rfl ?_
    refine w_getI dX10_note_85 f_X10_79 (by first | assumption | rfl) rfl ?_
    refine w_iconst (v := 1) dX10_note_88 (by decide) ?_
    refine w_iadd dX10_note_89 ?_
    refine w_putI dX10_note_90 f_X10_79 (by first | assumption | rfl) rfl ?_
    exact w_ret dX10_note_93 ⟨rfl, by rw [e11, nI_1], rfl⟩
  | succ r ih =>
    intro k hr hk
    have e11 : (upR I 94 (cpy (I 94) (I 92) (22 * z) 0 k)) 89 11 = nI z := by rw [upR_ne (by decide)]; exact hz
    refine w_iload_n dX10_note_51 rfl ?_
    refine w_bipush (v := 22) dX10_note_52 (by decide) ?_
    refine w_icmp_ge (tgt := 83) dX10_note_54 (by decide) (fun c_54 => absurd c_54 (nI_ge (b := 22) (by omega) (by decide))) (fun c_54 => ?_)
    refine w_aload_n dX10_note_57 rfl ?_
    refine w_getR dX10_note_58 f_X10_22 (by first | assumption | rfl) rfl rfl ?_
    refine w_bipush (v := 22) dX10_note_61 (by decide) ?_
    refine w_aload_n dX10_note_63 rfl ?_
    refine w_getI dX10_note_64 f_X10_79 (by first | assumption | rfl) rfl ?_
    rw [e11]
    refine w_imul dX10_note_67 ?_
    refine w_iload_n dX10_note_68 rfl ?_
    refine w_iadd dX10_note_69 ?_
    refine w_aload_n dX10_note_70 rfl ?_
    refine w_getR dX10_note_71 f_X10_16 (by first | assumption | rfl) rfl rfl ?_
    refine w_iload_n dX10_note_74 rfl ?_
    refine w_iald (j := k) dX10_note_75 (by first | assumption | rfl) rfl rfl (show k < 22 by omega) (by decide) ?_
    refine w_iast (j := (22 * z + k)) dX10_note_76 (by first | assumption | rfl) rfl ix_22 (show 22 * z + k < 308 by omega) (by decide) ?_
    refine w_iincv (c := 1) dX10_note_77 (by decide) rfl (by decide) rfl ?_
    refine w_goto (tgt := 51) dX10_note_80 (by decide) ?_
    refine w_show (L2 := _) (st2 := _) (I2 := upR I 94 (cpy (I 94) (I 92) (22 * z) 0 (k + 1))) (J2 := J) ?_ rfl rfl ?_ rfl
    · rw [nI_1]
      exact ih (k + 1) (by omega) (by omega)
    · rw [upI_upR, upR_ne (by decide), ← cpy_s, Nat.zero_add]
set_option maxHeartbeats 4000000 in
set_option maxRecDepth 100000 in
theorem l_X10_note1 {I : Mem} {J : Lng} {R : Mem} : ∀ (r k : Nat), 286 - k = r → k ≤ 286 → (∀ x1 : Option Value, q_w yX10_note.cls yX10_note.name cX10_note 2 .return_ 0 (fun st I2 J1 => st = [] ∧ I2 = R ∧ J1 = J) 39 [some (.ref 89), x1] [] (upR I 94 (cpy (I 94) (I 94) 0 22 286)) (J)) → q_w yX10_note.cls yX10_note.name cX10_note 2 .return_ 0 (fun st I2 J1 => st = [] ∧ I2 = R ∧ J1 = J) 11 [some (.ref 89), some (.int (nI k))] [] (upR I 94 (cpy (I 94) (I 94) 0 22 k)) (J) := by
  intro r
  induction r with
  | zero =>
    intro k hr hk K
    obtain rfl : k = 286 := by omega
    refine w_iload_n dX10_note_11 rfl ?_
    refine w_sipush (v := 286) dX10_note_12 (by decide) ?_
    refine w_icmp_ge (tgt := 39) dX10_note_15 (by decide) (fun c_15 => ?_) (fun c_15 => absurd (show (286 : Int32) ≤ nI 286 by decide) c_15)
    exact K _
  | succ r ih =>
    intro k hr hk K
    refine w_iload_n dX10_note_11 rfl ?_
    refine w_sipush (v := 286) dX10_note_12 (by decide) ?_
    refine w_icmp_ge (tgt := 39) dX10_note_15 (by decide) (fun c_15 => absurd c_15 (nI_ge (b := 286) (by omega) (by decide))) (fun c_15 => ?_)
    refine w_aload_n dX10_note_18 rfl ?_
    refine w_getR dX10_note_19 f_X10_22 (by first | assumption | rfl) rfl rfl ?_
    refine w_iload_n dX10_note_22 rfl ?_
    refine w_aload_n dX10_note_23 rfl ?_
    refine w_getR dX10_note_24 f_X10_22 (by first | assumption | rfl) rfl rfl ?_
    refine w_iload_n dX10_note_27 rfl ?_
    refine w_bipush (v := 22) dX10_note_28 (by decide) ?_
    refine w_iadd dX10_note_30 ?_
    refine w_iald (j := (k + 22)) dX10_note_31 (by first | assumption | rfl) rfl (nI_add k 22) (show k + 22 < 308 by omega) (by decide) ?_
    refine w_iast (j := k) dX10_note_32 (by first | assumption | rfl) rfl rfl (show k < 308 by omega) (by decide) ?_
    refine w_iincv (c := 1) dX10_note_33 (by decide) rfl (by decide) rfl ?_
    refine w_goto (tgt := 11) dX10_note_36 (by decide) ?_
    refine w_show (L2 := _) (st2 := _) (I2 := upR I 94 (cpy (I 94) (I 94) 0 22 (k + 1))) (J2 := J) ?_ rfl rfl ?_ rfl
    · rw [nI_1]
      exact ih (k + 1) (by omega) (by omega) K
    · rw [upI_upR, upR_t, cpy_hi (show 0 + k ≤ k + 22 by omega), ← cpy_s, Nat.zero_add, Nat.add_comm k 22]
set_option maxHeartbeats 4000000 in
set_option maxRecDepth 100000 in
theorem c_X10_note {I : Mem} {J : Lng} {z : Nat} (hz : I 89 11 = nI z) (hz2 : z ≤ 14) : q_E yX10_note cX10_note 2 none 0 [.ref 89] I J none (znt I z) (J) := by
  refine q_Ev me_X10_note rfl (Nat.le_of_ble_eq_true rfl) ?_
  show q_w _ _ _ _ _ _ _ 0 [some (.ref 89), none] [] I J
  refine w_aload_n dX10_note_0 rfl ?_
  refine w_getI dX10_note_1 f_X10_79 (by first | assumption | rfl) rfl ?_
  refine w_bipush (v := 14) dX10_note_4 (by decide) ?_
  refine w_icmp_ne (tgt := 49) dX10_note_6 (by decide) (fun c_6 => ?_) (fun c_6 => ?_)
  · refine w_iconst (v := 0) dX10_note_49 (by decide) ?_
    refine w_istore_n dX10_note_50 (by decide) rfl ?_
    have hne : z ≠ 14 := fun e => c_6 (by rw [hz, e]; rfl)
    refine w_show (L2 := _) (st2 := _) (I2 := upR I 94 (cpy (I 94) (I 92) (22 * z) 0 0)) (J2 := J) ?_ rfl rfl (by rw [cpy_0, upR_id]) rfl
    have := l_X10_note2 (J := J) hz (by omega) 22 0 rfl (by decide)
    unfold znt rz
    rw [if_neg hne, if_neg hne]
    exact this
  · have hz14 : z = 14 := nI_inj (by omega) (by decide) (hz.symm.trans c_6)
    subst hz14
    refine w_iconst (v := 0) dX10_note_9 (by decide) ?_
    refine w_istore_n dX10_note_10 (by decide) rfl ?_
    refine w_show (L2 := _) (st2 := _) (I2 := upR I 94 (cpy (I 94) (I 94) 0 22 0)) (J2 := J) ?_ rfl rfl (by rw [cpy_0, upR_id]) rfl
    refine l_X10_note1 286 0 rfl (by decide) (fun x1 => ?_)
    have e11 : (upR I 94 (cpy (I 94) (I 94) 0 22 286)) 89 11 = nI 14 := by rw [upR_ne (by decide)]; exact hz
    refine w_aload_n dX10_note_39 rfl ?_
    refine w_dup dX10_note_40 rfl ?_
    refine w_getI dX10_note_41 f_X10_79 (by first | assumption | rfl) rfl ?_
    refine w_iconst (v := 1) dX10_note_44 (by decide) ?_
    refine w_isub dX10_note_45 ?_
    refine w_putI dX10_note_46 f_X10_79 (by first | assumption | rfl) rfl ?_
    refine w_iconst (v := 0) dX10_note_49 (by decide) ?_
    refine w_istore_n dX10_note_50 (by decide) rfl ?_
    refine w_show (L2 := _) (st2 := _) (I2 := upR (upI (upR I 94 (cpy (I 94) (I 94) 0 22 286)) 89 11 (nI 13)) 94 (cpy ((upI (upR I 94 (cpy (I 94) (I 94) 0 22 286)) 89 11 (nI 13)) 94) ((upI (upR I 94 (cpy (I 94) (I 94) 0 22 286)) 89 11 (nI 13)) 92) (22 * 13) 0 0)) (J2 := J) ?_ rfl rfl ?_ rfl
    · have := l_X10_note2 (I := upI (upR I 94 (cpy (I 94) (I 94) 0 22 286)) 89 11 (nI 13)) (J := J) (z := 13) upI_tt (by decide) 22 0 rfl (by decide)
      rw [show (upI (upR I 94 (cpy (I 94) (I 94) 0 22 286)) 89 11 (nI 13)) 92 = I 92 by rw [upI_ne (by decide), upR_ne (by decide)]] at this ⊢
      exact this
    · rw [cpy_0, upR_id, e11]; rfl
set_option maxHeartbeats 4000000 in
set_option maxRecDepth 100000 in
theorem c_X10_undo_l {I : Mem} {J : Lng} (hz : I 89 11 = 0) : q_E yX10_undo cX10_undo 2 (some .int) 0 [.ref 89] I J (some (.int (-3))) (upI I 89 0 0) (J) := by
  refine q_Ei me_X10_undo rfl (Nat.le_of_ble_eq_true rfl) ?_
  show q_w _ _ _ _ _ _ _ 0 [some (.ref 89), none] [] I J
  refine w_aload_n dX10_undo_0 rfl ?_
  refine w_iconst (v := 0) dX10_undo_1 (by decide) ?_
  refine w_putI dX10_undo_2 f_X10_41 (by first | assumption | rfl) rfl ?_
  refine w_aload_n dX10_undo_5 rfl ?_
  refine w_getI dX10_undo_6 f_X10_79 (by first | assumption | rfl) rfl ?_
  refine w_if_ne (tgt := 15) dX10_undo_9 (by decide) (fun c_9 => absurd c_9 (by rw [upI_tf (by decide)]; exact fun q => q hz)) (fun c_9 => ?_)
  refine w_bipush (v := (-3)) dX10_undo_12 (by decide) ?_
  exact w_ret dX10_undo_14 ⟨rfl, rfl, rfl⟩
set_option maxHeartbeats 4000000 in
set_option maxRecDepth 100000 in
theorem l_X10_undo {I : Mem} {J : Lng} {z : Nat} (hz : I 89 11 = nI z) (hz2 : z < 14) : ∀ (r k : Nat), 22 - k = r → k ≤ 22 → q_w yX10_undo.cls yX10_undo.name cX10_undo 2 .ireturn 0 (fun st I2 J1 => st = [.int (nI z)] ∧ I2 = upR I 92 (cpy (I 92) (I 94) 0 (22 * z) 22) ∧ J1 = J) 27 [some (.ref 89), some (.int (nI k))] [] (upR I 92 (cpy (I 92) (I 94) 0 (22 * z) k)) (J) := by
  intro r
  induction r with
  | zero =>
    intro k hr hk
    obtain rfl : k = 22 := by omega
    have e11 : (upR I 92 (cpy (I 92) (I 94) 0 (22 * z) 22)) 89 11 = nI z := by rw [upR_ne (by decide)]; exact hz
    refine w_iload_n dX10_undo_27 rfl ?_
    refine w_bipush (v := 22) dX10_undo_28 (by decide) ?_
    refine w_icmp_ge (tgt := 59) dX10_undo_30 (by decide) (fun c_30 => ?_) (fun c_30 => absurd (show (22 : Int32) ≤ nI 22 by decide) c_30)
    refine w_aload_n dX10_undo_59 rfl ?_
    refine w_getI dX10_undo_60 f_X10_79 (by first | assumption | rfl) rfl ?_
    exact w_ret dX10_undo_63 ⟨by rw [e11], rfl, rfl⟩
  | succ r ih =>
    intro k hr hk
    have e11 : (upR I 92 (cpy (I 92) (I 94) 0 (22 * z) k)) 89 11 = nI z := by rw [upR_ne (by decide)]; exact hz
    refine w_iload_n dX10_undo_27 rfl ?_
    refine w_bipush (v := 22) dX10_undo_28 (by decide) ?_
    refine w_icmp_ge (tgt := 59) dX10_undo_30 (by decide) (fun c_30 => absurd c_30 (nI_ge (b := 22) (by omega) (by decide))) (fun c_30 => ?_)
    refine w_aload_n dX10_undo_33 rfl ?_
    refine w_getR dX10_undo_34 f_X10_16 (by first | assumption | rfl) rfl rfl ?_
    refine w_iload_n dX10_undo_37 rfl ?_
    refine w_aload_n dX10_undo_38 rfl ?_
    refine w_getR dX10_undo_39 f_X10_22 (by first | assumption | rfl) rfl rfl ?_
    refine w_bipush (v := 22) dX10_undo_42 (by decide) ?_
    refine w_aload_n dX10_undo_44 rfl ?_
    refine w_getI dX10_undo_45 f_X10_79 (by first | assumption | rfl) rfl ?_
    rw [e11]
    refine w_imul dX10_undo_48 ?_
    refine w_iload_n dX10_undo_49 rfl ?_
    refine w_iadd dX10_undo_50 ?_
    refine w_iald (j := (22 * z + k)) dX10_undo_51 (by first | assumption | rfl) rfl ix_22 (show 22 * z + k < 308 by omega) (by decide) ?_
    refine w_iast (j := k) dX10_undo_52 (by first | assumption | rfl) rfl rfl (show k < 22 by omega) (by decide) ?_
    refine w_iincv (c := 1) dX10_undo_53 (by decide) rfl (by decide) rfl ?_
    refine w_goto (tgt := 27) dX10_undo_56 (by decide) ?_
    refine w_show (L2 := _) (st2 := _) (I2 := upR I 92 (cpy (I 92) (I 94) 0 (22 * z) (k + 1))) (J2 := J) ?_ rfl rfl ?_ rfl
    · rw [nI_1]
      exact ih (k + 1) (by omega) (by omega)
    · rw [upI_upR, upR_ne (by decide), ← cpy_s, Nat.zero_add]
set_option maxHeartbeats 4000000 in
set_option maxRecDepth 100000 in
theorem c_X10_undo {I : Mem} {J : Lng} {z : Nat} (hz : I 89 11 = nI (z + 1)) (hz2 : z < 14) : q_E yX10_undo cX10_undo 2 (some .int) 0 [.ref 89] I J (some (.int (nI z))) (upR (upI (upI I 89 0 0) 89 11 (nI z)) 92 (cpy (I 92) (I 94) 0 (22 * z) 22)) (J) := by
  refine q_Ei me_X10_undo rfl (Nat.le_of_ble_eq_true rfl) ?_
  show q_w _ _ _ _ _ _ _ 0 [some (.ref 89), none] [] I J
  refine w_aload_n dX10_undo_0 rfl ?_
  refine w_iconst (v := 0) dX10_undo_1 (by decide) ?_
  refine w_putI dX10_undo_2 f_X10_41 (by first | assumption | rfl) rfl ?_
  refine w_aload_n dX10_undo_5 rfl ?_
  refine w_getI dX10_undo_6 f_X10_79 (by first | assumption | rfl) rfl ?_
  refine w_if_ne (tgt := 15) dX10_undo_9 (by decide) (fun c_9 => ?_) (fun c_9 => absurd c_9 (by rw [upI_tf (by decide), hz]; exact fun e => absurd (nI_inj (b := 0) (by omega) (by decide) e) (by omega)))
  refine w_aload_n dX10_undo_15 rfl ?_
  refine w_dup dX10_undo_16 rfl ?_
  refine w_getI dX10_undo_17 f_X10_79 (by first | assumption | rfl) rfl ?_
  refine w_iconst (v := 1) dX10_undo_20 (by decide) ?_
  refine w_isub dX10_undo_21 ?_
  rw [upI_tf (by decide), hz, nI_pred]
  refine w_putI dX10_undo_22 f_X10_79 (by first | assumption | rfl) rfl ?_
  refine w_iconst (v := 0) dX10_undo_25 (by decide) ?_
  refine w_istore_n dX10_undo_26 (by decide) rfl ?_
  refine w_show (L2 := _) (st2 := _) (I2 := upR (upI (upI I 89 0 0) 89 11 (nI z)) 92 (cpy ((upI (upI I 89 0 0) 89 11 (nI z)) 92) ((upI (upI I 89 0 0) 89 11 (nI z)) 94) 0 (22 * z) 0)) (J2 := J) ?_ rfl rfl (by rw [cpy_0, upR_id]) rfl
  have := l_X10_undo (I := upI (upI I 89 0 0) 89 11 (nI z)) (J := J) upI_tt hz2 22 0 rfl (by decide)
  rw [show (upI (upI I 89 0 0) 89 11 (nI z)) 92 = I 92 by rw [upI_ne (by decide), upI_ne (by decide)], show (upI (upI I 89 0 0) 89 11 (nI z)) 94 = I 94 by rw [upI_ne (by decide), upI_ne (by decide)]] at this ⊢
  exact this
set_option maxHeartbeats 4000000 in
set_option maxRecDepth 100000 in
theorem c_X10_keep_u {I : Mem} {J : Lng} {x : Int32} (hx : pin x 2 = none) : q_E yX10_keep cX10_keep 3 (some .int) 1 [.ref 89, .int x] I J (some (.int (-1))) (upI I 89 0 0) (J) := by
  have hin := c_X10_in (I := upI I 89 0 0) (J := J) (v := x.toInt64) (a := 0) (b := 1)
  rw [zin_pin (N := 2) (by decide), hx] at hin
  refine q_Ei me_X10_keep rfl (Nat.le_of_ble_eq_true rfl) ?_
  show q_w _ _ _ _ _ _ _ 0 [some (.ref 89), some (.int x), none] [] I J
  refine w_aload_n dX10_keep_0 rfl ?_
  refine w_iconst (v := 0) dX10_keep_1 (by decide) ?_
  refine w_putI dX10_keep_2 f_X10_41 (by first | assumption | rfl) rfl ?_
  refine w_iload_n dX10_keep_5 rfl ?_
  refine w_i2l dX10_keep_6 ?_
  refine w_lconst (v := 0) dX10_keep_7 (by decide) ?_
  refine w_lconst (v := 1) dX10_keep_8 (by decide) ?_
  refine w_callSi dX10_keep_9 k_X10_45 (hin) rfl rfl rfl (Nat.le_of_ble_eq_true rfl) (by first | decide | omega) ?_
  refine w_if_ne (tgt := 17) dX10_keep_12 (by decide) (fun c_12 => absurd c_12 (fun q => q rfl)) (fun c_12 => ?_)
  refine w_iconst (v := (-1)) dX10_keep_15 (by decide) ?_
  exact w_ret dX10_keep_16 ⟨rfl, rfl, rfl⟩
set_option maxHeartbeats 4000000 in
set_option maxRecDepth 100000 in
theorem c_X10_again_u {I : Mem} {J : Lng} {x : Int32} (hx : pin x 2 = none) : q_E yX10_again cX10_again 3 (some .int) 1 [.ref 89, .int x] I J (some (.int (-1))) (upI I 89 0 0) (J) := by
  have hin := c_X10_in (I := upI I 89 0 0) (J := J) (v := x.toInt64) (a := 0) (b := 1)
  rw [zin_pin (N := 2) (by decide), hx] at hin
  refine q_Ei me_X10_again rfl (Nat.le_of_ble_eq_true rfl) ?_
  show q_w _ _ _ _ _ _ _ 0 [some (.ref 89), some (.int x), none] [] I J
  refine w_aload_n dX10_again_0 rfl ?_
  refine w_iconst (v := 0) dX10_again_1 (by decide) ?_
  refine w_putI dX10_again_2 f_X10_41 (by first | assumption | rfl) rfl ?_
  refine w_iload_n dX10_again_5 rfl ?_
  refine w_i2l dX10_again_6 ?_
  refine w_lconst (v := 0) dX10_again_7 (by decide) ?_
  refine w_lconst (v := 1) dX10_again_8 (by decide) ?_
  refine w_callSi dX10_again_9 k_X10_45 (hin) rfl rfl rfl (Nat.le_of_ble_eq_true rfl) (by first | decide | omega) ?_
  refine w_if_ne (tgt := 17) dX10_again_12 (by decide) (fun c_12 => absurd c_12 (fun q => q rfl)) (fun c_12 => ?_)
  refine w_iconst (v := (-1)) dX10_again_15 (by decide) ?_
  exact w_ret dX10_again_16 ⟨rfl, rfl, rfl⟩
set_option maxHeartbeats 4000000 in
set_option maxRecDepth 100000 in
theorem l_X10_keep {I : Mem} {J : Lng} {s : Nat} (hs : s < 2) : ∀ (r k : Nat), 22 - k = r → k ≤ 22 → q_w yX10_keep.cls yX10_keep.name cX10_keep 3 .ireturn 1 (fun st I2 J1 => st = [.int (I 92 5)] ∧ I2 = upR I 95 (cpy (I 95) (I 92) (22 * s) 0 22) ∧ J1 = J) 26 [some (.ref 89), some (.int (nI s)), some (.int (nI k))] [] (upR I 95 (cpy (I 95) (I 92) (22 * s) 0 k)) (J) := by
  intro r
  induction r with
  | zero =>
    intro k hr hk
    obtain rfl : k = 22 := by omega
    refine w_iload_n dX10_keep_26 rfl ?_
    refine w_bipush (v := 22) dX10_keep_27 (by decide) ?_
    refine w_icmp_ge (tgt := 55) dX10_keep_29 (by decide) (fun c_29 => ?_) (fun c_29 => absurd (show (22 : Int32) ≤ nI 22 by decide) c_29)
    refine w_aload_n dX10_keep_55 rfl ?_
    refine w_getR dX10_keep_56 f_X10_16 (by first | assumption | rfl) rfl rfl ?_
    refine w_iconst (v := 5) dX10_keep_59 (by decide) ?_
    refine w_iald (j := 5) dX10_keep_60 (by first | assumption | rfl) rfl rfl (by decide) (by decide) ?_
    exact w_ret dX10_keep_61 ⟨by rw [upR_ne (by decide)], rfl, rfl⟩
  | succ r ih =>
    intro k hr hk
    refine w_iload_n dX10_keep_26 rfl ?_
    refine w_bipush (v := 22) dX10_keep_27 (by decide) ?_
    refine w_icmp_ge (tgt := 55) dX10_keep_29 (by decide) (fun c_29 => absurd c_29 (nI_ge (b := 22) (by omega) (by decide))) (fun c_29 => ?_)
    refine w_aload_n dX10_keep_32 rfl ?_
    refine w_getR dX10_keep_33 f_X10_25 (by first | assumption | rfl) rfl rfl ?_
    refine w_bipush (v := 22) dX10_keep_36 (by decide) ?_
    refine w_iload_n dX10_keep_38 rfl ?_
    refine w_imul dX10_keep_39 ?_
    refine w_iload_n dX10_keep_40 rfl ?_
    refine w_iadd dX10_keep_41 ?_
    refine w_aload_n dX10_keep_42 rfl ?_
    refine w_getR dX10_keep_43 f_X10_16 (by first | assumption | rfl) rfl rfl ?_
    refine w_iload_n dX10_keep_46 rfl ?_
    refine w_iald (j := k) dX10_keep_47 (by first | assumption | rfl) rfl rfl (show k < 22 by omega) (by decide) ?_
    refine w_iast (j := (22 * s + k)) dX10_keep_48 (by first | assumption | rfl) rfl ix_22 (show 22 * s + k < 44 by omega) (by decide) ?_
    refine w_iincv (c := 1) dX10_keep_49 (by decide) rfl (by decide) rfl ?_
    refine w_goto (tgt := 26) dX10_keep_52 (by decide) ?_
    refine w_show (L2 := _) (st2 := _) (I2 := upR I 95 (cpy (I 95) (I 92) (22 * s) 0 (k + 1))) (J2 := J) ?_ rfl rfl ?_ rfl
    · rw [nI_1]
      exact ih (k + 1) (by omega) (by omega)
    · rw [upI_upR, upR_ne (by decide), ← cpy_s, Nat.zero_add]
set_option maxHeartbeats 4000000 in
set_option maxRecDepth 100000 in
theorem c_X10_keep {I : Mem} {J : Lng} {x : Int32} {s : Nat} (hx : pin x 2 = some s) : q_E yX10_keep cX10_keep 3 (some .int) 1 [.ref 89, .int x] I J (some (.int (I 92 5))) (upR (upI (upI I 89 0 0) 96 s 1) 95 (cpy (I 95) (I 92) (22 * s) 0 22)) (J) := by
  have hin := c_X10_in (I := upI I 89 0 0) (J := J) (v := x.toInt64) (a := 0) (b := 1)
  rw [zin_pin (N := 2) (by decide), hx] at hin
  obtain ⟨hs, rfl⟩ := pin_some (by decide) hx
  refine q_Ei me_X10_keep rfl (Nat.le_of_ble_eq_true rfl) ?_
  show q_w _ _ _ _ _ _ _ 0 [some (.ref 89), some (.int (nI s)), none] [] I J
  refine w_aload_n dX10_keep_0 rfl ?_
  refine w_iconst (v := 0) dX10_keep_1 (by decide) ?_
  refine w_putI dX10_keep_2 f_X10_41 (by first | assumption | rfl) rfl ?_
  refine w_iload_n dX10_keep_5 rfl ?_
  refine w_i2l dX10_keep_6 ?_
  refine w_lconst (v := 0) dX10_keep_7 (by decide) ?_
  refine w_lconst (v := 1) dX10_keep_8 (by decide) ?_
  refine w_callSi dX10_keep_9 k_X10_45 (hin) rfl rfl rfl (Nat.le_of_ble_eq_true rfl) (by first | decide | omega) ?_
  refine w_if_ne (tgt := 17) dX10_keep_12 (by decide) (fun c_12 => ?_) (fun c_12 => absurd c_12 (show ¬ zB true = 0 by decide))
  refine w_aload_n dX10_keep_17 rfl ?_
  refine w_getR dX10_keep_18 f_X10_28 (by first | assumption | rfl) rfl rfl ?_
  refine w_iload_n dX10_keep_21 rfl ?_
  refine w_iconst (v := 1) dX10_keep_22 (by decide) ?_
  refine w_zast (j := s) dX10_keep_23 (by first | assumption | rfl) rfl rfl hs (by decide) (by first | rfl | decide | assumption) ?_
  refine w_iconst (v := 0) dX10_keep_24 (by decide) ?_
  refine w_istore_n dX10_keep_25 (by decide) rfl ?_
  refine w_show (L2 := _) (st2 := _) (I2 := upR (upI (upI I 89 0 0) 96 s 1) 95 (cpy ((upI (upI I 89 0 0) 96 s 1) 95) ((upI (upI I 89 0 0) 96 s 1) 92) (22 * s) 0 0)) (J2 := J) ?_ rfl rfl (by rw [cpy_0, upR_id]) rfl
  have := l_X10_keep (I := (upI (upI I 89 0 0) 96 s 1)) (J := J) hs 22 0 rfl (by decide)
  rw [show (upI (upI I 89 0 0) 96 s 1) 92 = I 92 by rw [upI_ne (by decide), upI_ne (by decide)], show (upI (upI I 89 0 0) 96 s 1) 95 = I 95 by rw [upI_ne (by decide), upI_ne (by decide)]] at this ⊢
  exact this
set_option maxHeartbeats 4000000 in
set_option maxRecDepth 100000 in
theorem c_X10_again_l {I : Mem} {J : Lng} {x : Int32} {s : Nat} (hx : pin x 2 = some s) (hk : I 96 s = 0) : q_E yX10_again cX10_again 3 (some .int) 1 [.ref 89, .int x] I J (some (.int (-3))) (upI I 89 0 0) (J) := by
  have hin := c_X10_in (I := upI I 89 0 0) (J := J) (v := x.toInt64) (a := 0) (b := 1)
  rw [zin_pin (N := 2) (by decide), hx] at hin
  obtain ⟨hs, rfl⟩ := pin_some (by decide) hx
  refine q_Ei me_X10_again rfl (Nat.le_of_ble_eq_true rfl) ?_
  show q_w _ _ _ _ _ _ _ 0 [some (.ref 89), some (.int (nI s)), none] [] I J
  refine w_aload_n dX10_again_0 rfl ?_
  refine w_iconst (v := 0) dX10_again_1 (by decide) ?_
  refine w_putI dX10_again_2 f_X10_41 (by first | assumption | rfl) rfl ?_
  refine w_iload_n dX10_again_5 rfl ?_
  refine w_i2l dX10_again_6 ?_
  refine w_lconst (v := 0) dX10_again_7 (by decide) ?_
  refine w_lconst (v := 1) dX10_again_8 (by decide) ?_
  refine w_callSi dX10_again_9 k_X10_45 (hin) rfl rfl rfl (Nat.le_of_ble_eq_true rfl) (by first | decide | omega) ?_
  refine w_if_ne (tgt := 17) dX10_again_12 (by decide) (fun c_12 => ?_) (fun c_12 => absurd c_12 (show ¬ zB true = 0 by decide))
  refine w_aload_n dX10_again_17 rfl ?_
  refine w_getR dX10_again_18 f_X10_28 (by first | assumption | rfl) rfl rfl ?_
  refine w_iload_n dX10_again_21 rfl ?_
  refine w_zald (j := s) dX10_again_22 (by first | assumption | rfl) rfl rfl hs (by decide) ?_
  refine w_if_ne (tgt := 29) dX10_again_23 (by decide) (fun c_23 => absurd c_23 (by rw [upI_ne (by decide)]; exact fun q => q hk)) (fun c_23 => ?_)
  refine w_bipush (v := (-3)) dX10_again_26 (by decide) ?_
  exact w_ret dX10_again_28 ⟨rfl, rfl, rfl⟩
set_option maxHeartbeats 4000000 in
set_option maxRecDepth 100000 in
theorem l_X10_again {I : Mem} {J : Lng} {s : Nat} (hs : s < 2) : ∀ (r k : Nat), 22 - k = r → k ≤ 22 → q_w yX10_again.cls yX10_again.name cX10_again 3 .ireturn 1 (fun st I2 J1 => st = [.int (I 95 (22 * s + 5))] ∧ I2 = upI (upR I 92 (cpy (I 92) (I 95) 0 (22 * s) 22)) 89 11 0 ∧ J1 = J) 31 [some (.ref 89), some (.int (nI s)), some (.int (nI k))] [] (upR I 92 (cpy (I 92) (I 95) 0 (22 * s) k)) (J) := by
  intro r
  induction r with
  | zero =>
    intro k hr hk
    obtain rfl : k = 22 := by omega
    refine w_iload_n dX10_again_31 rfl ?_
    refine w_bipush (v := 22) dX10_again_32 (by decide) ?_
    refine w_icmp_ge (tgt := 60) dX10_again_34 (by decide) (fun c_34 => ?_) (fun c_34 => absurd (show (22 : Int32) ≤ nI 22 by decide) c_34)
    refine w_aload_n dX10_again_60 rfl ?_
    refine w_iconst (v := 0) dX10_again_61 (by decide) ?_
    refine w_putI dX10_again_62 f_X10_79 (by first | assumption | rfl) rfl ?_
    refine w_aload_n dX10_again_65 rfl ?_
    refine w_getR dX10_again_66 f_X10_16 (by first | assumption | rfl) rfl rfl ?_
    refine w_iconst (v := 5) dX10_again_69 (by decide) ?_
    refine w_iald (j := 5) dX10_again_70 (by first | assumption | rfl) rfl rfl (by decide) (by decide) ?_
    exact w_ret dX10_again_71 ⟨by rw [upI_ne (by decide), upR_t, show cpy (I 92) (I 95) 0 (22 * s) 22 5 = I 95 (22 * s + 5) from cpy_in (d := 0) (i := 5) (by decide)], rfl, rfl⟩
  | succ r ih =>
    intro k hr hk
    refine w_iload_n dX10_again_31 rfl ?_
    refine w_bipush (v := 22) dX10_again_32 (by decide) ?_
    refine w_icmp_ge (tgt := 60) dX10_again_34 (by decide) (fun c_34 => absurd c_34 (nI_ge (b := 22) (by omega) (by decide))) (fun c_34 => ?_)
    refine w_aload_n dX10_again_37 rfl ?_
    refine w_getR dX10_again_38 f_X10_16 (by first | assumption | rfl) rfl rfl ?_
    refine w_iload_n dX10_again_41 rfl ?_
    refine w_aload_n dX10_again_42 rfl ?_
    refine w_getR dX10_again_43 f_X10_25 (by first | assumption | rfl) rfl rfl ?_
    refine w_bipush (v := 22) dX10_again_46 (by decide) ?_
    refine w_iload_n dX10_again_48 rfl ?_
    refine w_imul dX10_again_49 ?_
    refine w_iload_n dX10_again_50 rfl ?_
    refine w_iadd dX10_again_51 ?_
    refine w_iald (j := (22 * s + k)) dX10_again_52 (by first | assumption | rfl) rfl ix_22 (show 22 * s + k < 44 by omega) (by decide) ?_
    refine w_iast (j := k) dX10_again_53 (by first | assumption | rfl) rfl rfl (show k < 22 by omega) (by decide) ?_
    refine w_iincv (c := 1) dX10_again_54 (by decide) rfl (by decide) rfl ?_
    refine w_goto (tgt := 31) dX10_again_57 (by decide) ?_
    refine w_show (L2 := _) (st2 := _) (I2 := upR I 92 (cpy (I 92) (I 95) 0 (22 * s) (k + 1))) (J2 := J) ?_ rfl rfl ?_ rfl
    · rw [nI_1]
      exact ih (k + 1) (by omega) (by omega)
    · rw [upI_upR, upR_ne (by decide), ← cpy_s, Nat.zero_add]
set_option maxHeartbeats 4000000 in
set_option maxRecDepth 100000 in
theorem c_X10_again {I : Mem} {J : Lng} {x : Int32} {s : Nat} (hx : pin x 2 = some s) (hk : ¬ I 96 s = 0) : q_E yX10_again cX10_again 3 (some .int) 1 [.ref 89, .int x] I J (some (.int (I 95 (22 * s + 5)))) (upI (upR (upI I 89 0 0) 92 (cpy (I 92) (I 95) 0 (22 * s) 22)) 89 11 0) (J) := by
  have hin := c_X10_in (I := upI I 89 0 0) (J := J) (v := x.toInt64) (a := 0) (b := 1)
  rw [zin_pin (N := 2) (by decide), hx] at hin
  obtain ⟨hs, rfl⟩ := pin_some (by decide) hx
  refine q_Ei me_X10_again rfl (Nat.le_of_ble_eq_true rfl) ?_
  show q_w _ _ _ _ _ _ _ 0 [some (.ref 89), some (.int (nI s)), none] [] I J
  refine w_aload_n dX10_again_0 rfl ?_
  refine w_iconst (v := 0) dX10_again_1 (by decide) ?_
  refine w_putI dX10_again_2 f_X10_41 (by first | assumption | rfl) rfl ?_
  refine w_iload_n dX10_again_5 rfl ?_
  refine w_i2l dX10_again_6 ?_
  refine w_lconst (v := 0) dX10_again_7 (by decide) ?_
  refine w_lconst (v := 1) dX10_again_8 (by decide) ?_
  refine w_callSi dX10_again_9 k_X10_45 (hin) rfl rfl rfl (Nat.le_of_ble_eq_true rfl) (by first | decide | omega) ?_
  refine w_if_ne (tgt := 17) dX10_again_12 (by decide) (fun c_12 => ?_) (fun c_12 => absurd c_12 (show ¬ zB true = 0 by decide))
  refine w_aload_n dX10_again_17 rfl ?_
  refine w_getR dX10_again_18 f_X10_28 (by first | assumption | rfl) rfl rfl ?_
  refine w_iload_n dX10_again_21 rfl ?_
  refine w_zald (j := s) dX10_again_22 (by first | assumption | rfl) rfl rfl hs (by decide) ?_
  refine w_if_ne (tgt := 29) dX10_again_23 (by decide) (fun c_23 => ?_) (fun c_23 => absurd c_23 (by rw [upI_ne (by decide)]; exact hk))
  refine w_iconst (v := 0) dX10_again_29 (by decide) ?_
  refine w_istore_n dX10_again_30 (by decide) rfl ?_
  refine w_show (L2 := _) (st2 := _) (I2 := upR (upI I 89 0 0) 92 (cpy ((upI I 89 0 0) 92) ((upI I 89 0 0) 95) 0 (22 * s) 0)) (J2 := J) ?_ rfl rfl (by rw [cpy_0, upR_id]) rfl
  have := l_X10_again (I := (upI I 89 0 0)) (J := J) hs 22 0 rfl (by decide)
  rw [show (upI I 89 0 0) 92 = I 92 from upI_ne (by decide), show (upI I 89 0 0) 95 = I 95 from upI_ne (by decide)] at this ⊢
  exact this
set_option maxHeartbeats 4000000 in
set_option maxRecDepth 100000 in
theorem c_X10_seed {I : Mem} {J : Lng} {v : Int64} : q_E yX10_seed cX10_seed 5 (some .long) 0 [.ref 89, .long v] I J (some (.long (J 89))) (upI I 89 0 0) (upJ J 89 v) := by
  refine q_El me_X10_seed rfl (Nat.le_of_ble_eq_true rfl) ?_
  show q_w _ _ _ _ _ _ _ 0 [some (.ref 89), some (.long v), none, none, none] [] I J
  refine w_aload_n dX10_seed_0 rfl ?_
  refine w_iconst (v := 0) dX10_seed_1 (by decide) ?_
  refine w_putI dX10_seed_2 f_X10_41 (by first | assumption | rfl) rfl ?_
  refine w_aload_n dX10_seed_5 rfl ?_
  refine w_getJ dX10_seed_6 f_X10_175 (by first | assumption | rfl) rfl ?_
  refine w_lstore_n dX10_seed_9 (by decide) rfl ?_
  refine w_aload_n dX10_seed_10 rfl ?_
  refine w_lload_n dX10_seed_11 rfl ?_
  refine w_putJ dX10_seed_12 f_X10_175 (by first | assumption | rfl) rfl ?_
  refine w_lload_n dX10_seed_15 rfl ?_
  exact w_ret dX10_seed_16 ⟨rfl, rfl, rfl⟩
set_option maxHeartbeats 4000000 in
set_option maxRecDepth 100000 in
theorem c_X10_wipe {I : Mem} {J : Lng} : q_E yX10_wipe cX10_wipe 2 (some .int) 0 [.ref 89] I J (some (.int (I 89 2))) (upI (upI I 89 0 0) 89 2 0) (J) := by
  refine q_Ei me_X10_wipe rfl (Nat.le_of_ble_eq_true rfl) ?_
  show q_w _ _ _ _ _ _ _ 0 [some (.ref 89), none] [] I J
  refine w_aload_n dX10_wipe_0 rfl ?_
  refine w_iconst (v := 0) dX10_wipe_1 (by decide) ?_
  refine w_putI dX10_wipe_2 f_X10_41 (by first | assumption | rfl) rfl ?_
  refine w_aload_n dX10_wipe_5 rfl ?_
  refine w_getI dX10_wipe_6 f_X10_53 (by first | assumption | rfl) rfl ?_
  refine w_istore_n dX10_wipe_9 (by decide) rfl ?_
  refine w_aload_n dX10_wipe_10 rfl ?_
  refine w_iconst (v := 0) dX10_wipe_11 (by decide) ?_
  refine w_putI dX10_wipe_12 f_X10_53 (by first | assumption | rfl) rfl ?_
  refine w_iload_n dX10_wipe_15 rfl ?_
  exact w_ret dX10_wipe_16 ⟨rfl, rfl, rfl⟩
set_option maxHeartbeats 4000000 in
set_option maxRecDepth 100000 in
theorem c_X10_write_b {I : Mem} {J : Lng} {n : Nat} {x : Int32} (hn : I 89 2 = nI n) (hx : pin x 256 = none) : q_E yX10_write cX10_write 2 (some .int) 1 [.ref 89, .int x] I J (some (.int (-2))) (upI I 89 0 0) (J) := by
  have hin := c_X10_in (I := upI I 89 0 0) (J := J) (v := x.toInt64) (a := 0) (b := 255)
  rw [zin_pin (N := 256) (by decide), hx] at hin
  refine q_Ei me_X10_write rfl (Nat.le_of_ble_eq_true rfl) ?_
  show q_w _ _ _ _ _ _ _ 0 [some (.ref 89), some (.int x)] [] I J
  refine w_aload_n dX10_write_0 rfl ?_
  refine w_iconst (v := 0) dX10_write_1 (by decide) ?_
  refine w_putI dX10_write_2 f_X10_41 (by first | assumption | rfl) rfl ?_
  refine w_iload_n dX10_write_5 rfl ?_
  refine w_i2l dX10_write_6 ?_
  refine w_lconst (v := 0) dX10_write_7 (by decide) ?_
  refine w_ldc2 dX10_write_8 c_X10_51 ?_
  refine w_callSi dX10_write_11 k_X10_45 (hin) rfl rfl rfl (Nat.le_of_ble_eq_true rfl) (by first | decide | omega) ?_
  refine w_if_ne (tgt := 20) dX10_write_14 (by decide) (fun c_14 => absurd c_14 (fun q => q rfl)) (fun c_14 => ?_)
  refine w_bipush (v := (-2)) dX10_write_17 (by decide) ?_
  exact w_ret dX10_write_19 ⟨rfl, rfl, rfl⟩
set_option maxHeartbeats 4000000 in
set_option maxRecDepth 100000 in
theorem c_X10_write_f {I : Mem} {J : Lng} {n : Nat} {x : Int32} (hn : I 89 2 = nI n) {b : Nat} (hx : pin x 256 = some b) (h40 : n = 40) : q_E yX10_write cX10_write 2 (some .int) 1 [.ref 89, .int x] I J (some (.int (-4))) (upI I 89 0 0) (J) := by
  have hin := c_X10_in (I := upI I 89 0 0) (J := J) (v := x.toInt64) (a := 0) (b := 255)
  rw [zin_pin (N := 256) (by decide), hx] at hin
  refine q_Ei me_X10_write rfl (Nat.le_of_ble_eq_true rfl) ?_
  show q_w _ _ _ _ _ _ _ 0 [some (.ref 89), some (.int x)] [] I J
  refine w_aload_n dX10_write_0 rfl ?_
  refine w_iconst (v := 0) dX10_write_1 (by decide) ?_
  refine w_putI dX10_write_2 f_X10_41 (by first | assumption | rfl) rfl ?_
  refine w_iload_n dX10_write_5 rfl ?_
  refine w_i2l dX10_write_6 ?_
  refine w_lconst (v := 0) dX10_write_7 (by decide) ?_
  refine w_ldc2 dX10_write_8 c_X10_51 ?_
  refine w_callSi dX10_write_11 k_X10_45 (hin) rfl rfl rfl (Nat.le_of_ble_eq_true rfl) (by first | decide | omega) ?_
  refine w_if_ne (tgt := 20) dX10_write_14 (by decide) (fun c_14 => ?_) (fun c_14 => absurd c_14 (show ¬ zB true = 0 by decide))
  refine w_aload_n dX10_write_20 rfl ?_
  refine w_getI dX10_write_21 f_X10_53 (by first | assumption | rfl) rfl ?_
  refine w_bipush (v := 40) dX10_write_24 (by decide) ?_
  refine w_icmp_ne (tgt := 32) dX10_write_26 (by decide) (fun c_26 => absurd c_26 (by rw [upI_tf (by decide), hn, h40]; exact fun q => q rfl)) (fun c_26 => ?_)
  refine w_bipush (v := (-4)) dX10_write_29 (by decide) ?_
  exact w_ret dX10_write_31 ⟨rfl, rfl, rfl⟩
set_option maxHeartbeats 4000000 in
set_option maxRecDepth 100000 in
theorem c_X10_write {I : Mem} {J : Lng} {n : Nat} {x : Int32} (hn : I 89 2 = nI n) {b : Nat} (hx : pin x 256 = some b) (h40 : n < 40) : q_E yX10_write cX10_write 2 (some .int) 1 [.ref 89, .int x] I J (some (.int (nI (n + 1)))) (upI (upI (upI I 89 0 0) 90 n x) 89 2 (nI (n + 1))) (J) := by
  have hin := c_X10_in (I := upI I 89 0 0) (J := J) (v := x.toInt64) (a := 0) (b := 255)
  rw [zin_pin (N := 256) (by decide), hx] at hin
  have e2 : (upI I 89 0 0) 89 2 = nI n := by rw [upI_tf (by decide)]; exact hn
  refine q_Ei me_X10_write rfl (Nat.le_of_ble_eq_true rfl) ?_
  show q_w _ _ _ _ _ _ _ 0 [some (.ref 89), some (.int x)] [] I J
  refine w_aload_n dX10_write_0 rfl ?_
  refine w_iconst (v := 0) dX10_write_1 (by decide) ?_
  refine w_putI dX10_write_2 f_X10_41 (by first | assumption | rfl) rfl ?_
  refine w_iload_n dX10_write_5 rfl ?_
  refine w_i2l dX10_write_6 ?_
  refine w_lconst (v := 0) dX10_write_7 (by decide) ?_
  refine w_ldc2 dX10_write_8 c_X10_51 ?_
  refine w_callSi dX10_write_11 k_X10_45 (hin) rfl rfl rfl (Nat.le_of_ble_eq_true rfl) (by first | decide | omega) ?_
  refine w_if_ne (tgt := 20) dX10_write_14 (by decide) (fun c_14 => ?_) (fun c_14 => absurd c_14 (show ¬ zB true = 0 by decide))
  refine w_aload_n dX10_write_20 rfl ?_
  refine w_getI dX10_write_21 f_X10_53 (by first | assumption | rfl) rfl ?_
  refine w_bipush (v := 40) dX10_write_24 (by decide) ?_
  refine w_icmp_ne (tgt := 32) dX10_write_26 (by decide) (fun c_26 => ?_) (fun c_26 => absurd c_26 (by rw [e2]; exact fun e => absurd (nI_inj (b := 40) (by omega) (by decide) e) (by omega)))
  refine w_aload_n dX10_write_32 rfl ?_
  refine w_getR dX10_write_33 f_X10_7 (by first | assumption | rfl) rfl rfl ?_
  refine w_aload_n dX10_write_36 rfl ?_
  refine w_getI dX10_write_37 f_X10_53 (by first | assumption | rfl) rfl ?_
  refine w_iload_n dX10_write_40 rfl ?_
  refine w_iast (j := n) dX10_write_41 (by first | assumption | rfl) rfl e2 h40 (by decide) ?_
  refine w_aload_n dX10_write_42 rfl ?_
  refine w_dup dX10_write_43 rfl ?_
  refine w_getI dX10_write_44 f_X10_53 (by first | assumption | rfl) rfl ?_
  refine w_iconst (v := 1) dX10_write_47 (by decide) ?_
  refine w_iadd dX10_write_48 ?_
  rw [upI_ne (by decide), e2, nI_1]
  refine w_putI dX10_write_49 f_X10_53 (by first | assumption | rfl) rfl ?_
  refine w_aload_n dX10_write_52 rfl ?_
  refine w_getI dX10_write_53 f_X10_53 (by first | assumption | rfl) rfl ?_
  rw [upI_tt]
  exact w_ret dX10_write_56 ⟨rfl, rfl, rfl⟩
