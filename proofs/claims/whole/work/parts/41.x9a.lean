theorem pn_le {p K : Int32} {N : Nat} (hp : pin p N = none) (h0 : ¬ p < 0) (hK : K.toInt + 1 = N) : ¬ p ≤ K := fun h => by
  have h9 := pin_none hp
  rw [ti_lt] at h0; rw [ti_le] at h
  have z : (0 : Int32).toInt = 0 := by decide
  omega
theorem pn_ge {p K : Int32} {N : Nat} (hp : pin p N = none) (h0 : ¬ p < 0) (hK : K.toInt = N) : K ≤ p := by
  have h9 := pin_none hp
  rw [ti_lt] at h0; rw [ti_le]
  have z : (0 : Int32).toInt = 0 := by decide
  omega
theorem pn_gt {p K : Int32} {N : Nat} (hp : pin p N = none) (h0 : ¬ p < 0) (hK : K.toInt + 1 = N) : K < p := by
  have h9 := pin_none hp
  rw [ti_lt] at h0 ⊢
  have z : (0 : Int32).toInt = 0 := by decide
  omega
/-- an argument as a number 1 .. K -/
def pin1 (p : Int32) (K : Nat) : Option Nat := if 1 ≤ p.toInt ∧ p.toInt ≤ K then some p.toInt.toNat else none
theorem pin1_some {p : Int32} {K j : Nat} (hK : K < 2 ^ 31) (h : pin1 p K = some j) : 1 ≤ j ∧ j ≤ K ∧ p = nI j := by
  unfold pin1 at h
  split at h
  · rename_i hh
    cases h
    refine ⟨by omega, by omega, ti_eq.mpr ?_⟩
    rw [nI_toInt (by omega)]; omega
  · cases h
theorem pin1_none {p : Int32} {K : Nat} (h : pin1 p K = none) : ¬ (1 ≤ p.toInt ∧ p.toInt ≤ K) := by
  unfold pin1 at h
  split at h
  · cases h
  · assumption
theorem p1_le {p K : Int32} {N : Nat} (hp : pin1 p N = none) (h0 : ¬ p < 1) (hK : K.toInt = N) : ¬ p ≤ K := fun h => by
  have h9 := pin1_none hp
  rw [ti_lt] at h0; rw [ti_le] at h
  have z : (1 : Int32).toInt = 1 := by decide
  omega
theorem p1_gt {p K : Int32} {N : Nat} (hp : pin1 p N = none) (h0 : ¬ p < 1) (hK : K.toInt = N) : K < p := by
  have h9 := pin1_none hp
  rw [ti_lt] at h0 ⊢
  have z : (1 : Int32).toInt = 1 := by decide
  omega
theorem nI_1le {j : Nat} (h : 1 ≤ j) (h2 : j < 2 ^ 31) : ¬ nI j < 1 := nI_nlt (a := j) (b := 1) h h2
set_option maxHeartbeats 4000000 in
set_option maxRecDepth 100000 in
theorem c_X9_write_b {I : Mem} {J : Lng} {n : Nat} {x : Int32} (hT : TR I n) (hx : pin x 256 = none) : q_E yX9_write cX9_write 2 (some .int) 1 [.ref 0, .int x] I J (some (.int (-2))) (I) (J) := by
  refine q_Ei me_X9_write rfl (Nat.le_of_ble_eq_true rfl) ?_
  show q_w _ _ _ _ _ _ _ 0 [some (.ref 0), some (.int x)] [] I J
  refine w_iload_n dX9_write_0 rfl ?_
  refine w_if_lt (tgt := 11) dX9_write_1 (by decide) (fun c_1 => ?_) (fun c_1 => ?_)
  · refine w_bipush (v := (-2)) dX9_write_11 (by decide) ?_
    exact w_ret dX9_write_13 ⟨rfl, rfl, rfl⟩
  · refine w_iload_n dX9_write_4 rfl ?_
    refine w_sipush (v := 255) dX9_write_5 (by decide) ?_
    refine w_icmp_le (tgt := 14) dX9_write_8 (by decide) (fun c_8 => absurd c_8 (pn_le hx c_1 (by decide))) (fun c_8 => ?_)
    refine w_bipush (v := (-2)) dX9_write_11 (by decide) ?_
    exact w_ret dX9_write_13 ⟨rfl, rfl, rfl⟩
set_option maxHeartbeats 4000000 in
set_option maxRecDepth 100000 in
theorem c_X9_write_f {I : Mem} {J : Lng} {n : Nat} {x : Int32} (hT : TR I n) {b : Nat} (hx : pin x 256 = some b) (hn : n = 40) : q_E yX9_write cX9_write 2 (some .int) 1 [.ref 0, .int x] I J (some (.int (-4))) (I) (J) := by
  obtain ⟨hb, rfl⟩ := pin_some (by decide) hx
  refine q_Ei me_X9_write rfl (Nat.le_of_ble_eq_true rfl) ?_
  show q_w _ _ _ _ _ _ _ 0 [some (.ref 0), some (.int (nI b))] [] I J
  refine w_iload_n dX9_write_0 rfl ?_
  refine w_if_lt (tgt := 11) dX9_write_1 (by decide) (fun c_1 => absurd c_1 (nI_pos (by omega))) (fun c_1 => ?_)
  refine w_iload_n dX9_write_4 rfl ?_
  refine w_sipush (v := 255) dX9_write_5 (by decide) ?_
  refine w_icmp_le (tgt := 14) dX9_write_8 (by decide) (fun c_8 => ?_) (fun c_8 => absurd (nI_le (b := 255) (by omega) (by decide)) c_8)
  refine w_aload_n dX9_write_14 rfl ?_
  refine w_getR dX9_write_15 f_X9_10 (by first | assumption | rfl) rfl rfl ?_
  refine w_iload_n dX9_write_18 rfl ?_
  refine w_callVi dX9_write_19 k_X9_69 (by first | assumption | rfl) rfl (c_X8_add_0 hT hn) rfl rfl rfl (Nat.le_of_ble_eq_true rfl) (by first | decide | omega) ?_
  refine w_if_eq (tgt := 35) dX9_write_22 (by decide) (fun c_22 => ?_) (fun c_22 => absurd (rfl : (0 : Int32) = 0) c_22)
  refine w_bipush (v := (-4)) dX9_write_35 (by decide) ?_
  exact w_ret dX9_write_37 ⟨rfl, rfl, rfl⟩
set_option maxHeartbeats 4000000 in
set_option maxRecDepth 100000 in
theorem c_X9_write {I : Mem} {J : Lng} {n : Nat} {x : Int32} (hT : TR I n) {b : Nat} (hx : pin x 256 = some b) (hn : n < 40) : q_E yX9_write cX9_write 2 (some .int) 1 [.ref 0, .int x] I J (some (.int (nI (n + 1)))) (upI (upI I 2 n x) 1 1 (nI (n + 1))) (J) := by
  obtain ⟨hb, rfl⟩ := pin_some (by decide) hx
  refine q_Ei me_X9_write rfl (Nat.le_of_ble_eq_true rfl) ?_
  show q_w _ _ _ _ _ _ _ 0 [some (.ref 0), some (.int (nI b))] [] I J
  refine w_iload_n dX9_write_0 rfl ?_
  refine w_if_lt (tgt := 11) dX9_write_1 (by decide) (fun c_1 => absurd c_1 (nI_pos (by omega))) (fun c_1 => ?_)
  refine w_iload_n dX9_write_4 rfl ?_
  refine w_sipush (v := 255) dX9_write_5 (by decide) ?_
  refine w_icmp_le (tgt := 14) dX9_write_8 (by decide) (fun c_8 => ?_) (fun c_8 => absurd (nI_le (b := 255) (by omega) (by decide)) c_8)
  refine w_aload_n dX9_write_14 rfl ?_
  refine w_getR dX9_write_15 f_X9_10 (by first | assumption | rfl) rfl rfl ?_
  refine w_iload_n dX9_write_18 rfl ?_
  refine w_callVi dX9_write_19 k_X9_69 (by first | assumption | rfl) rfl (c_X8_add hT hn) rfl rfl rfl (Nat.le_of_ble_eq_true rfl) (by first | decide | omega) ?_
  refine w_if_eq (tgt := 35) dX9_write_22 (by decide) (fun c_22 => absurd c_22 (by decide)) (fun c_22 => ?_)
  refine w_aload_n dX9_write_25 rfl ?_
  refine w_getR dX9_write_26 f_X9_10 (by first | assumption | rfl) rfl rfl ?_
  refine w_getI dX9_write_29 f_X9_73 (by first | assumption | rfl) rfl ?_
  refine w_goto (tgt := 37) dX9_write_32 (by decide) ?_
  exact w_ret dX9_write_37 ⟨by rw [upI_tt], rfl, rfl⟩
set_option maxHeartbeats 4000000 in
set_option maxRecDepth 100000 in
theorem c_X9_wipe {I : Mem} {J : Lng} : q_E yX9_wipe cX9_wipe 2 (some .int) 0 [.ref 0] I J (some (.int (I 1 1))) (upI I 1 1 0) (J) := by
  refine q_Ei me_X9_wipe rfl (Nat.le_of_ble_eq_true rfl) ?_
  show q_w _ _ _ _ _ _ _ 0 [some (.ref 0), none] [] I J
  refine w_aload_n dX9_wipe_0 rfl ?_
  refine w_getR dX9_wipe_1 f_X9_10 (by first | assumption | rfl) rfl rfl ?_
  refine w_getI dX9_wipe_4 f_X9_73 (by first | assumption | rfl) rfl ?_
  refine w_istore_n dX9_wipe_7 (by decide) rfl ?_
  refine w_aload_n dX9_wipe_8 rfl ?_
  refine w_getR dX9_wipe_9 f_X9_10 (by first | assumption | rfl) rfl rfl ?_
  refine w_iconst (v := 0) dX9_wipe_12 (by decide) ?_
  refine w_putI dX9_wipe_13 f_X9_73 (by first | assumption | rfl) rfl ?_
  refine w_iload_n dX9_wipe_16 rfl ?_
  exact w_ret dX9_wipe_17 ⟨rfl, rfl, rfl⟩
set_option maxHeartbeats 4000000 in
set_option maxRecDepth 100000 in
theorem c_X9_fault {I : Mem} {J : Lng} {n : Nat} (hT : TR I n) : q_E yX9_fault cX9_fault 1 (some .int) 3 [.ref 0] I J (some (.int (zff (I 2) n n 0))) (I) (J) := by
  refine q_Ei me_X9_fault rfl (Nat.le_of_ble_eq_true rfl) ?_
  show q_w _ _ _ _ _ _ _ 0 [some (.ref 0)] [] I J
  refine w_aload_n dX9_fault_0 rfl ?_
  refine w_getR dX9_fault_1 f_X9_10 (by first | assumption | rfl) rfl rfl ?_
  refine w_callVi dX9_fault_4 k_X9_77 (by first | assumption | rfl) rfl (c_X8_firstFault hT) rfl rfl rfl (Nat.le_of_ble_eq_true rfl) (by first | decide | omega) ?_
  exact w_ret dX9_fault_7 ⟨rfl, rfl, rfl⟩
set_option maxHeartbeats 4000000 in
set_option maxRecDepth 100000 in
theorem c_X9_land_f {I : Mem} {J : Lng} {n : Nat} (hT : TR I n) (hz : zff (I 2) n n 0 ≠ -9) : q_E yX9_land cX9_land 2 (some .int) 3 [.ref 0] I J (some (.int (-3))) (I) (J) := by
  refine q_Ei me_X9_land rfl (Nat.le_of_ble_eq_true rfl) ?_
  show q_w _ _ _ _ _ _ _ 0 [some (.ref 0), none] [] I J
  refine w_aload_n dX9_land_0 rfl ?_
  refine w_getR dX9_land_1 f_X9_10 (by first | assumption | rfl) rfl rfl ?_
  refine w_callVi dX9_land_4 k_X9_77 (by first | assumption | rfl) rfl (c_X8_firstFault hT) rfl rfl rfl (Nat.le_of_ble_eq_true rfl) (by first | decide | omega) ?_
  refine w_bipush (v := (-9)) dX9_land_7 (by decide) ?_
  refine w_icmp_eq (tgt := 15) dX9_land_9 (by decide) (fun c_9 => absurd c_9 hz) (fun c_9 => ?_)
  refine w_bipush (v := (-3)) dX9_land_12 (by decide) ?_
  exact w_ret dX9_land_14 ⟨rfl, rfl, rfl⟩
def zland (I : Mem) (k : Nat) : Mem := upI (upI (upI (upI (zmkF I k) 9 1 0) 9 2 0) 54 0 0) 54 1 0
set_option maxHeartbeats 4000000 in
set_option maxRecDepth 100000 in
theorem c_X9_land {I : Mem} {J : Lng} {k : Nat} (hT : TR I (3 + 4 * k)) (hk : k ≤ 7) (hz : zff (I 2) (3 + 4 * k) (3 + 4 * k) 0 = -9) : q_E yX9_land cX9_land 2 (some .int) 3 [.ref 0] I J (some (.int (nI k))) (zland I k) J := by
  have hff := c_X8_firstFault (J := J) hT
  rw [hz] at hff
  refine q_Ei me_X9_land rfl (Nat.le_of_ble_eq_true rfl) ?_
  show q_w _ _ _ _ _ _ _ 0 [some (.ref 0), none] [] I J
  refine w_aload_n dX9_land_0 rfl ?_
  refine w_getR dX9_land_1 f_X9_10 (by first | assumption | rfl) rfl rfl ?_
  refine w_callVi dX9_land_4 k_X9_77 (by first | assumption | rfl) rfl (hff) rfl rfl rfl (Nat.le_of_ble_eq_true rfl) (by first | decide | omega) ?_
  refine w_bipush (v := (-9)) dX9_land_7 (by decide) ?_
  refine w_icmp_eq (tgt := 15) dX9_land_9 (by decide) (fun c_9 => ?_) (fun c_9 => absurd (rfl : (-9 : Int32) = -9) c_9)
  refine w_aload_n dX9_land_15 rfl ?_
  refine w_getR dX9_land_16 f_X9_10 (by first | assumption | rfl) rfl rfl ?_
  refine w_aload_n dX9_land_19 rfl ?_
  refine w_getR dX9_land_20 f_X9_19 (by first | assumption | rfl) rfl rfl ?_
  refine w_callVv dX9_land_23 k_X9_81 (by first | assumption | rfl) rfl (c_X8_makeAnew hT hk) rfl rfl rfl (Nat.le_of_ble_eq_true rfl) (by first | decide | omega) ?_
  refine w_aload_n dX9_land_26 rfl ?_
  refine w_getR dX9_land_27 f_X9_29 (by first | assumption | rfl) rfl rfl ?_
  refine w_callVv dX9_land_30 k_X9_85 (by first | assumption | rfl) rfl (c_X0_forgetAll) rfl rfl rfl (Nat.le_of_ble_eq_true rfl) (by first | decide | omega) ?_
  refine w_iconst (v := 0) dX9_land_33 (by decide) ?_
  refine w_istore_n dX9_land_34 (by decide) rfl ?_
  refine w_iload_n dX9_land_35 rfl ?_
  refine w_iconst (v := 2) dX9_land_36 (by decide) ?_
  refine w_icmp_ge (tgt := 53) dX9_land_37 (by decide) (fun c_37 => absurd c_37 (by decide)) (fun c_37 => ?_)
  refine w_aload_n dX9_land_40 rfl ?_
  refine w_getR dX9_land_41 f_X9_37 (by first | assumption | rfl) rfl rfl ?_
  refine w_iload_n dX9_land_44 rfl ?_
  refine w_iconst (v := 0) dX9_land_45 (by decide) ?_
  refine w_zast (j := 0) dX9_land_46 (by first | assumption | rfl) rfl rfl (by decide) (by decide) (by first | rfl | decide | assumption) ?_
  refine w_iincv (c := 1) dX9_land_47 (by decide) rfl (by decide) rfl ?_
  refine w_goto (tgt := 35) dX9_land_50 (by decide) ?_
  refine w_iload_n dX9_land_35 rfl ?_
  refine w_iconst (v := 2) dX9_land_36 (by decide) ?_
  refine w_icmp_ge (tgt := 53) dX9_land_37 (by decide) (fun c_37 => absurd c_37 (by decide)) (fun c_37 => ?_)
  refine w_aload_n dX9_land_40 rfl ?_
  refine w_getR dX9_land_41 f_X9_37 (by first | assumption | rfl) rfl rfl ?_
  refine w_iload_n dX9_land_44 rfl ?_
  refine w_iconst (v := 0) dX9_land_45 (by decide) ?_
  refine w_zast (j := 1) dX9_land_46 (by first | assumption | rfl) rfl rfl (by decide) (by decide) (by first | rfl | decide | assumption) ?_
  refine w_iincv (c := 1) dX9_land_47 (by decide) rfl (by decide) rfl ?_
  refine w_goto (tgt := 35) dX9_land_50 (by decide) ?_
  refine w_iload_n dX9_land_35 rfl ?_
  refine w_iconst (v := 2) dX9_land_36 (by decide) ?_
  refine w_icmp_ge (tgt := 53) dX9_land_37 (by decide) (fun c_37 => ?_) (fun c_37 => absurd (by decide) c_37)
  refine w_aload_n dX9_land_53 rfl ?_
  refine w_getR dX9_land_54 f_X9_19 (by first | assumption | rfl) rfl rfl ?_
  refine w_getI dX9_land_57 f_X9_88 (by first | assumption | rfl) rfl ?_
  refine w_ret dX9_land_60 ⟨?_, rfl, rfl⟩
  rw [upI_ne (by decide), upI_ne (by decide), upI_ne (by decide), upI_ne (by decide)]
  show [Value.int (upI (zmk I k) 3 5 _ 3 3)] = _
  rw [upI_tf (by decide), zmk_n]
def vAbout (a : Nat → Int32) (z len w : Int32) : Int32 := match pin w 9 with
  | none => -2
  | some 0 => a 6
  | some 1 => a 0
  | some 2 => a 1
  | some 3 => a 2
  | some 4 => a 3
  | some 5 => a 4
  | some 6 => a 5
  | some 7 => z
  | some _ => len
set_option maxHeartbeats 4000000 in
set_option maxRecDepth 100000 in
theorem c_X9_about {I : Mem} {J : Lng} {w : Int32} : q_E yX9_about cX9_about 2 (some .int) 0 [.ref 0, .int w] I J (some (.int (vAbout (lnd I 3) (I 9 2) (I 1 1) w))) (I) (J) := by
  refine q_Ei me_X9_about rfl (Nat.le_of_ble_eq_true rfl) ?_
  show q_w _ _ _ _ _ _ _ 0 [some (.ref 0), some (.int w)] [] I J
  refine w_iload_n dX9_about_0 rfl ?_
  unfold vAbout
  rcases hw : pin w 9 with _ | k
  · refine w_tableOut (tgt := 124) dX9_about_1 (by have := pin_none hw; omega) (by decide) ?_
    refine w_bipush (v := (-2)) dX9_about_124 (by decide) ?_
    exact w_ret dX9_about_126 ⟨rfl, rfl, rfl⟩
  obtain ⟨hk, rfl⟩ := pin_some (by decide) hw
  clear hw
  rcases (show k = 0 ∨ k = 1 ∨ k = 2 ∨ k = 3 ∨ k = 4 ∨ k = 5 ∨ k = 6 ∨ k = 7 ∨ k = 8 by omega) with rfl | rfl | rfl | rfl | rfl | rfl | rfl | rfl | rfl
  · refine w_tableIn (tgt := 52) (off := 51) dX9_about_1 (by decide) (by decide) (by decide) (by decide) ?_
    refine w_aload_n dX9_about_52 rfl ?_
    refine w_getR dX9_about_53 f_X9_19 (by first | assumption | rfl) rfl rfl ?_
    refine w_getI dX9_about_56 f_X9_88 (by first | assumption | rfl) rfl ?_
    exact w_ret dX9_about_59 ⟨rfl, rfl, rfl⟩
  · refine w_tableIn (tgt := 60) (off := 59) dX9_about_1 (by decide) (by decide) (by decide) (by decide) ?_
    refine w_aload_n dX9_about_60 rfl ?_
    refine w_getR dX9_about_61 f_X9_19 (by first | assumption | rfl) rfl rfl ?_
    refine w_getI dX9_about_64 f_X9_91 (by first | assumption | rfl) rfl ?_
    exact w_ret dX9_about_67 ⟨rfl, rfl, rfl⟩
  · refine w_tableIn (tgt := 68) (off := 67) dX9_about_1 (by decide) (by decide) (by decide) (by decide) ?_
    refine w_aload_n dX9_about_68 rfl ?_
    refine w_getR dX9_about_69 f_X9_19 (by first | assumption | rfl) rfl rfl ?_
    refine w_getI dX9_about_72 f_X9_94 (by first | assumption | rfl) rfl ?_
    exact w_ret dX9_about_75 ⟨rfl, rfl, rfl⟩
  · refine w_tableIn (tgt := 76) (off := 75) dX9_about_1 (by decide) (by decide) (by decide) (by decide) ?_
    refine w_aload_n dX9_about_76 rfl ?_
    refine w_getR dX9_about_77 f_X9_19 (by first | assumption | rfl) rfl rfl ?_
    refine w_getI dX9_about_80 f_X9_97 (by first | assumption | rfl) rfl ?_
    exact w_ret dX9_about_83 ⟨rfl, rfl, rfl⟩
  · refine w_tableIn (tgt := 84) (off := 83) dX9_about_1 (by decide) (by decide) (by decide) (by decide) ?_
    refine w_aload_n dX9_about_84 rfl ?_
    refine w_getR dX9_about_85 f_X9_19 (by first | assumption | rfl) rfl rfl ?_
    refine w_getI dX9_about_88 f_X9_100 (by first | assumption | rfl) rfl ?_
    exact w_ret dX9_about_91 ⟨rfl, rfl, rfl⟩
  · refine w_tableIn (tgt := 92) (off := 91) dX9_about_1 (by decide) (by decide) (by decide) (by decide) ?_
    refine w_aload_n dX9_about_92 rfl ?_
    refine w_getR dX9_about_93 f_X9_19 (by first | assumption | rfl) rfl rfl ?_
    refine w_getI dX9_about_96 f_X9_103 (by first | assumption | rfl) rfl ?_
    exact w_ret dX9_about_99 ⟨rfl, rfl, rfl⟩
  · refine w_tableIn (tgt := 100) (off := 99) dX9_about_1 (by decide) (by decide) (by decide) (by decide) ?_
    refine w_aload_n dX9_about_100 rfl ?_
    refine w_getR dX9_about_101 f_X9_19 (by first | assumption | rfl) rfl rfl ?_
    refine w_getI dX9_about_104 f_X9_106 (by first | assumption | rfl) rfl ?_
    exact w_ret dX9_about_107 ⟨rfl, rfl, rfl⟩
  · refine w_tableIn (tgt := 108) (off := 107) dX9_about_1 (by decide) (by decide) (by decide) (by decide) ?_
    refine w_aload_n dX9_about_108 rfl ?_
    refine w_getR dX9_about_109 f_X9_29 (by first | assumption | rfl) rfl rfl ?_
    refine w_getI dX9_about_112 f_X9_109 (by first | assumption | rfl) rfl ?_
    exact w_ret dX9_about_115 ⟨rfl, rfl, rfl⟩
  · refine w_tableIn (tgt := 116) (off := 115) dX9_about_1 (by decide) (by decide) (by decide) (by decide) ?_
    refine w_aload_n dX9_about_116 rfl ?_
    refine w_getR dX9_about_117 f_X9_10 (by first | assumption | rfl) rfl rfl ?_
    refine w_getI dX9_about_120 f_X9_73 (by first | assumption | rfl) rfl ?_
    exact w_ret dX9_about_123 ⟨rfl, rfl, rfl⟩
def vPerson (a : Nat → Int32) (N m j : Nat) (w : Int32) : Int32 := match pin w 5 with
  | none => -2
  | some 0 => a (7 + j)
  | some 1 => zB (pw a j)
  | some 2 => a (15 + j)
  | some 3 => zB (m.testBit j)
  | some _ => nI (fkm (fun p => a (7 + p)) (nI j) N)
set_option maxHeartbeats 4000000 in
set_option maxRecDepth 100000 in
theorem c_X9_person_u {I : Mem} {J : Lng} {N m : Nat} {p w : Int32} (hP : PW (lnd I 3) N m) (hp : pin p N = none) : q_E yX9_person cX9_person 3 (some .int) 2 [.ref 0, .int p, .int w] I J (some (.int (-1))) (I) (J) := by
  have hh := c_X6_has l3 (I := I) (J := J) (p := p)
  rw [zhas_pin hP.FM, hp] at hh
  refine q_Ei me_X9_person rfl (Nat.le_of_ble_eq_true rfl) ?_
  show q_w _ _ _ _ _ _ _ 0 [some (.ref 0), some (.int p), some (.int w)] [] I J
  refine w_aload_n dX9_person_0 rfl ?_
  refine w_getR dX9_person_1 f_X9_19 (by first | assumption | rfl) rfl rfl ?_
  refine w_iload_n dX9_person_4 rfl ?_
  refine w_callVi dX9_person_5 k_X9_112 (by first | assumption | rfl) rfl (hh) rfl rfl rfl (Nat.le_of_ble_eq_true rfl) (by first | decide | omega) ?_
  refine w_if_ne (tgt := 13) dX9_person_8 (by decide) (fun c_8 => ?_) (fun c_8 => ?_)
  · exact absurd rfl c_8
  · refine w_iconst (v := (-1)) dX9_person_11 (by decide) ?_
    exact w_ret dX9_person_12 ⟨rfl, rfl, rfl⟩
set_option maxHeartbeats 4000000 in
set_option maxRecDepth 100000 in
theorem c_X9_person {I : Mem} {J : Lng} {N m : Nat} {p w : Int32} (hP : PW (lnd I 3) N m) {j : Nat} (hp : pin p N = some j) : q_E yX9_person cX9_person 3 (some .int) 2 [.ref 0, .int p, .int w] I J (some (.int (vPerson (lnd I 3) N m j w))) (I) (J) := by
  have hn7 := hP.2.1
  obtain ⟨hj, rfl⟩ := pin_some (by omega) hp
  have hlv := cn_lives l3 (J := J) hP.FM hj (p2_128 hn7 hP.2.2.2.1) hP.2.2.1
  have hwo := cn_isWoman l3 (J := J) hP.FM hj
  refine q_Ei me_X9_person rfl (Nat.le_of_ble_eq_true rfl) ?_
  show q_w _ _ _ _ _ _ _ 0 [some (.ref 0), some (.int (nI j)), some (.int w)] [] I J
  refine w_aload_n dX9_person_0 rfl ?_
  refine w_getR dX9_person_1 f_X9_19 (by first | assumption | rfl) rfl rfl ?_
  refine w_iload_n dX9_person_4 rfl ?_
  refine w_callVi dX9_person_5 k_X9_112 (by first | assumption | rfl) rfl (cn_has l3 hP.FM hj) rfl rfl rfl (Nat.le_of_ble_eq_true rfl) (by first | decide | omega) ?_
  refine w_if_ne (tgt := 13) dX9_person_8 (by decide) (fun c_8 => ?_) (fun c_8 => absurd c_8 (by decide))
  refine w_iload_n dX9_person_13 rfl ?_
  unfold vPerson
  rcases hw : pin w 5 with _ | k
  · refine w_tableOut (tgt := 109) dX9_person_14 (by have := pin_none hw; omega) (by decide) ?_
    refine w_bipush (v := (-2)) dX9_person_109 (by decide) ?_
    exact w_ret dX9_person_111 ⟨rfl, rfl, rfl⟩
  obtain ⟨hk, rfl⟩ := pin_some (by decide) hw
  clear hw
  rcases (show k = 0 ∨ k = 1 ∨ k = 2 ∨ k = 3 ∨ k = 4 by omega) with rfl | rfl | rfl | rfl | rfl
  · refine w_tableIn (tgt := 48) (off := 34) dX9_person_14 (by decide) (by decide) (by decide) (by decide) ?_
    refine w_aload_n dX9_person_48 rfl ?_
    refine w_getR dX9_person_49 f_X9_19 (by first | assumption | rfl) rfl rfl ?_
    refine w_iload_n dX9_person_52 rfl ?_
    refine w_callVi dX9_person_53 k_X9_115 (by first | assumption | rfl) rfl (cn_parentOf l3 hP.FM hj) rfl rfl rfl (Nat.le_of_ble_eq_true rfl) (by first | decide | omega) ?_
    exact w_ret dX9_person_56 ⟨by show _ = [Value.int (lnd I 3 (7 + j))]; rw [lnd_par I 3 (by omega)], rfl, rfl⟩
  · refine w_tableIn (tgt := 57) (off := 43) dX9_person_14 (by decide) (by decide) (by decide) (by decide) ?_
    refine w_aload_n dX9_person_57 rfl ?_
    refine w_getR dX9_person_58 f_X9_19 (by first | assumption | rfl) rfl rfl ?_
    refine w_iload_n dX9_person_61 rfl ?_
    refine w_callVi dX9_person_62 k_X9_119 (by first | assumption | rfl) rfl (hwo) rfl rfl rfl (Nat.le_of_ble_eq_true rfl) (by first | decide | omega) ?_
    refine w_if_eq (tgt := 72) dX9_person_65 (by decide) (fun c_65 => ?_) (fun c_65 => ?_)
    · refine w_iconst (v := 0) dX9_person_72 (by decide) ?_
      refine w_ret dX9_person_73 ⟨?_, rfl, rfl⟩
      show _ = [Value.int (zB (wI I 3 j))]
      rw [c_65]
    · refine w_iconst (v := 1) dX9_person_68 (by decide) ?_
      refine w_goto (tgt := 73) dX9_person_69 (by decide) ?_
      refine w_ret dX9_person_73 ⟨?_, rfl, rfl⟩
      show _ = [Value.int (zB (wI I 3 j))]
      rw [show wI I 3 j = true by simpa [zB_eq0] using c_65]; rfl
  · refine w_tableIn (tgt := 74) (off := 60) dX9_person_14 (by decide) (by decide) (by decide) (by decide) ?_
    refine w_aload_n dX9_person_74 rfl ?_
    refine w_getR dX9_person_75 f_X9_19 (by first | assumption | rfl) rfl rfl ?_
    refine w_iload_n dX9_person_78 rfl ?_
    refine w_callVi dX9_person_79 k_X9_122 (by first | assumption | rfl) rfl (cn_ageOf l3 hP.FM hj) rfl rfl rfl (Nat.le_of_ble_eq_true rfl) (by first | decide | omega) ?_
    exact w_ret dX9_person_82 ⟨by show _ = [Value.int (lnd I 3 (15 + j))]; rw [lnd_age I 3 (by omega)], rfl, rfl⟩
  · refine w_tableIn (tgt := 83) (off := 69) dX9_person_14 (by decide) (by decide) (by decide) (by decide) ?_
    refine w_aload_n dX9_person_83 rfl ?_
    refine w_getR dX9_person_84 f_X9_19 (by first | assumption | rfl) rfl rfl ?_
    refine w_iload_n dX9_person_87 rfl ?_
    refine w_callVi dX9_person_88 k_X9_125 (by first | assumption | rfl) rfl (hlv) rfl rfl rfl (Nat.le_of_ble_eq_true rfl) (by first | decide | omega) ?_
    refine w_if_eq (tgt := 98) dX9_person_91 (by decide) (fun c_91 => ?_) (fun c_91 => ?_)
    · refine w_iconst (v := 0) dX9_person_98 (by decide) ?_
      refine w_ret dX9_person_99 ⟨?_, rfl, rfl⟩
      show _ = [Value.int (zB (m.testBit j))]
      rw [c_91]
    · refine w_iconst (v := 1) dX9_person_94 (by decide) ?_
      refine w_goto (tgt := 99) dX9_person_95 (by decide) ?_
      refine w_ret dX9_person_99 ⟨?_, rfl, rfl⟩
      show _ = [Value.int (zB (m.testBit j))]
      rw [show m.testBit j = true by simpa [zB_eq0] using c_91]; rfl
  · refine w_tableIn (tgt := 100) (off := 86) dX9_person_14 (by decide) (by decide) (by decide) (by decide) ?_
    refine w_aload_n dX9_person_100 rfl ?_
    refine w_getR dX9_person_101 f_X9_19 (by first | assumption | rfl) rfl rfl ?_
    refine w_iload_n dX9_person_104 rfl ?_
    refine w_callVi dX9_person_105 k_X9_128 (by first | assumption | rfl) rfl (cn_childrenOf l3 hP.FM) rfl rfl rfl (Nat.le_of_ble_eq_true rfl) (by first | decide | omega) ?_
    refine w_ret dX9_person_108 ⟨?_, rfl, rfl⟩
    show [Value.int (nI (fkm (I 4) (nI j) N))] = [Value.int (nI (fkm (fun p => lnd I 3 (7 + p)) (nI j) N))]
    rw [fkm_congr (pr := I 4) (pr' := fun p => lnd I 3 (7 + p)) (fun k hk => (lnd_par I 3 (by omega)).symm)]
set_option maxHeartbeats 4000000 in
set_option maxRecDepth 100000 in
theorem c_X9_isTie {I : Mem} {J : Lng} {t : Int32} : q_E yX9_isTie cX9_isTie 1 (some .boolean) 0 [.int t] I J (some (.int (zB (pin t 4).isSome))) (I) (J) := by
  refine q_Ez (zB_01 _) me_X9_isTie rfl (Nat.le_of_ble_eq_true rfl) ?_
  show q_w _ _ _ _ _ _ _ 0 [some (.int t)] [] I J
  refine w_iload_n dX9_isTie_0 rfl ?_
  refine w_if_lt (tgt := 13) dX9_isTie_1 (by decide) (fun c_1 => ?_) (fun c_1 => ?_)
  · refine w_iconst (v := 0) dX9_isTie_13 (by decide) ?_
    refine w_ret dX9_isTie_14 ⟨?_, rfl, rfl⟩
    cases h : pin t 4 with
    | none => rfl
    | some j =>
      obtain ⟨hj, rfl⟩ := pin_some (by decide) h
      exact absurd c_1 (nI_pos (by omega))
  · refine w_iload_n dX9_isTie_4 rfl ?_
    refine w_iconst (v := 4) dX9_isTie_5 (by decide) ?_
    refine w_icmp_ge (tgt := 13) dX9_isTie_6 (by decide) (fun c_6 => ?_) (fun c_6 => ?_)
    · refine w_iconst (v := 0) dX9_isTie_13 (by decide) ?_
      refine w_ret dX9_isTie_14 ⟨?_, rfl, rfl⟩
      cases h : pin t 4 with
      | none => rfl
      | some j =>
        obtain ⟨hj, rfl⟩ := pin_some (by decide) h
        exact absurd c_6 (nI_ge (b := 4) hj (by decide))
    · refine w_iconst (v := 1) dX9_isTie_9 (by decide) ?_
      refine w_goto (tgt := 14) dX9_isTie_10 (by decide) ?_
      refine w_ret dX9_isTie_14 ⟨?_, rfl, rfl⟩
      cases h : pin t 4 with
      | none => exact absurd (pn_ge (K := 4) h c_1 (by decide)) c_6
      | some j =>
        obtain ⟨hj, rfl⟩ := pin_some (by decide) h
        rfl
set_option maxHeartbeats 4000000 in
set_option maxRecDepth 100000 in
theorem c_X9_isSlot {I : Mem} {J : Lng} {t : Int32} : q_E yX9_isSlot cX9_isSlot 1 (some .boolean) 0 [.int t] I J (some (.int (zB (pin t 2).isSome))) (I) (J) := by
  refine q_Ez (zB_01 _) me_X9_isSlot rfl (Nat.le_of_ble_eq_true rfl) ?_
  show q_w _ _ _ _ _ _ _ 0 [some (.int t)] [] I J
  refine w_iload_n dX9_isSlot_0 rfl ?_
  refine w_if_lt (tgt := 13) dX9_isSlot_1 (by decide) (fun c_1 => ?_) (fun c_1 => ?_)
  · refine w_iconst (v := 0) dX9_isSlot_13 (by decide) ?_
    refine w_ret dX9_isSlot_14 ⟨?_, rfl, rfl⟩
    cases h : pin t 2 with
    | none => rfl
    | some j =>
      obtain ⟨hj, rfl⟩ := pin_some (by decide) h
      exact absurd c_1 (nI_pos (by omega))
  · refine w_iload_n dX9_isSlot_4 rfl ?_
    refine w_iconst (v := 2) dX9_isSlot_5 (by decide) ?_
    refine w_icmp_ge (tgt := 13) dX9_isSlot_6 (by decide) (fun c_6 => ?_) (fun c_6 => ?_)
    · refine w_iconst (v := 0) dX9_isSlot_13 (by decide) ?_
      refine w_ret dX9_isSlot_14 ⟨?_, rfl, rfl⟩
      cases h : pin t 2 with
      | none => rfl
      | some j =>
        obtain ⟨hj, rfl⟩ := pin_some (by decide) h
        exact absurd c_6 (nI_ge (b := 2) hj (by decide))
    · refine w_iconst (v := 1) dX9_isSlot_9 (by decide) ?_
      refine w_goto (tgt := 14) dX9_isSlot_10 (by decide) ?_
      refine w_ret dX9_isSlot_14 ⟨?_, rfl, rfl⟩
      cases h : pin t 2 with
      | none => exact absurd (pn_ge (K := 2) h c_1 (by decide)) c_6
      | some j =>
        obtain ⟨hj, rfl⟩ := pin_some (by decide) h
        rfl
