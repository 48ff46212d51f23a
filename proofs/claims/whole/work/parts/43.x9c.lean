set_option maxHeartbeats 4000000 in
set_option maxRecDepth 100000 in
theorem c_X9_die_u {I : Mem} {J : Lng} {N m : Nat} (hP : PW (lnd I 3) N m) {p : Int32} (hp : pin p N = none) : q_E yX9_die cX9_die 2 (some .int) 33 [.ref 0, .int p] I J (some (.int (-1))) (I) (J) := by
  have hh := c_X6_has l3 (I := I) (J := J) (p := p)
  rw [zhas_pin hP.FM, hp] at hh
  refine q_Ei me_X9_die rfl (Nat.le_of_ble_eq_true rfl) ?_
  show q_w _ _ _ _ _ _ _ 0 [some (.ref 0), some (.int p)] [] I J
  refine w_aload_n dX9_die_0 rfl ?_
  refine w_getR dX9_die_1 f_X9_19 (by first | assumption | rfl) rfl rfl ?_
  refine w_iload_n dX9_die_4 rfl ?_
  refine w_callVi dX9_die_5 k_X9_112 (by first | assumption | rfl) rfl (hh) rfl rfl rfl (Nat.le_of_ble_eq_true rfl) (by first | decide | omega) ?_
  refine w_if_ne (tgt := 13) dX9_die_8 (by decide) (fun c_8 => ?_) (fun c_8 => ?_)
  · exact absurd rfl c_8
  · refine w_iconst (v := (-1)) dX9_die_11 (by decide) ?_
    exact w_ret dX9_die_12 ⟨rfl, rfl, rfl⟩
set_option maxHeartbeats 4000000 in
set_option maxRecDepth 100000 in
theorem c_X9_die_l {I : Mem} {J : Lng} {N m : Nat} (hP : PW (lnd I 3) N m) {p : Int32} {j : Nat} (hp : pin p N = some j) (hb : m.testBit j = false) : q_E yX9_die cX9_die 2 (some .int) 33 [.ref 0, .int p] I J (some (.int (-3))) (I) (J) := by
  have hn7 := hP.2.1
  obtain ⟨hj, rfl⟩ := pin_some (by omega) hp
  have hm := p2_128 hn7 hP.2.2.2.1
  have hlv := cn_lives l3 (J := J) hP.FM hj hm hP.2.2.1
  rw [hb] at hlv
  refine q_Ei me_X9_die rfl (Nat.le_of_ble_eq_true rfl) ?_
  show q_w _ _ _ _ _ _ _ 0 [some (.ref 0), some (.int (nI j))] [] I J
  refine w_aload_n dX9_die_0 rfl ?_
  refine w_getR dX9_die_1 f_X9_19 (by first | assumption | rfl) rfl rfl ?_
  refine w_iload_n dX9_die_4 rfl ?_
  refine w_callVi dX9_die_5 k_X9_112 (by first | assumption | rfl) rfl (cn_has l3 hP.FM hj) rfl rfl rfl (Nat.le_of_ble_eq_true rfl) (by first | decide | omega) ?_
  refine w_if_ne (tgt := 13) dX9_die_8 (by decide) (fun c_8 => ?_) (fun c_8 => absurd c_8 (by decide))
  refine w_aload_n dX9_die_13 rfl ?_
  refine w_getR dX9_die_14 f_X9_19 (by first | assumption | rfl) rfl rfl ?_
  refine w_iload_n dX9_die_17 rfl ?_
  refine w_callVi dX9_die_18 k_X9_125 (by first | assumption | rfl) rfl (hlv) rfl rfl rfl (Nat.le_of_ble_eq_true rfl) (by first | decide | omega) ?_
  refine w_if_ne (tgt := 27) dX9_die_21 (by decide) (fun c_21 => absurd c_21 (fun q => q rfl)) (fun c_21 => ?_)
  refine w_bipush (v := (-3)) dX9_die_24 (by decide) ?_
  exact w_ret dX9_die_26 ⟨rfl, rfl, rfl⟩
set_option maxHeartbeats 4000000 in
set_option maxRecDepth 100000 in
theorem c_X9_die {I : Mem} {J : Lng} {N m f z : Nat} (hP : PW (lnd I 3) N m) (hA : AR I f z) {p : Int32} {j : Nat} (hp : pin p N = some j) (hb : m.testBit j = true) : q_F yX9_die cX9_die 2 (some .int) 33 [.ref 0, .int p] I J (fun r I1 J1 => r = some (.int (pdie (lnd I 3) N m j 1)) ∧ J1 = J ∧ lnd I1 3 = pdie (lnd I 3) N m j ∧ Fr scrL (zrem I f z) I1) := by
  have hn7 := hP.2.1
  obtain ⟨hj, rfl⟩ := pin_some (by omega) hp
  have hm := p2_128 hn7 hP.2.2.2.1
  have hlv := cn_lives l3 (J := J) hP.FM hj hm hP.2.2.1
  have hP1 : PW (lnd (zrem I f z) 3) N m := by rw [zrem_3]; exact hP
  rw [hb] at hlv
  have hlo := c_X6_loses k55 l3 (J := J) hP1.FM hP1.FP hj hm hP1.2.2.1 hb
  have hl := zlose_l (I := zrem I f z) (m := m) k55 l3 hn7 hP1.FP hj
  rw [zrem_3] at hl
  refine q_Fi me_X9_die rfl (Nat.le_of_ble_eq_true rfl) ?_
  show q_w _ _ _ _ _ _ _ 0 [some (.ref 0), some (.int (nI j))] [] I J
  refine w_aload_n dX9_die_0 rfl ?_
  refine w_getR dX9_die_1 f_X9_19 (by first | assumption | rfl) rfl rfl ?_
  refine w_iload_n dX9_die_4 rfl ?_
  refine w_callVi dX9_die_5 k_X9_112 (by first | assumption | rfl) rfl (cn_has l3 hP.FM hj) rfl rfl rfl (Nat.le_of_ble_eq_true rfl) (by first | decide | omega) ?_
  refine w_if_ne (tgt := 13) dX9_die_8 (by decide) (fun c_8 => ?_) (fun c_8 => absurd c_8 (by decide))
  refine w_aload_n dX9_die_13 rfl ?_
  refine w_getR dX9_die_14 f_X9_19 (by first | assumption | rfl) rfl rfl ?_
  refine w_iload_n dX9_die_17 rfl ?_
  refine w_callVi dX9_die_18 k_X9_125 (by first | assumption | rfl) rfl (hlv) rfl rfl rfl (Nat.le_of_ble_eq_true rfl) (by first | decide | omega) ?_
  refine w_if_ne (tgt := 27) dX9_die_21 (by decide) (fun c_21 => ?_) (fun c_21 => absurd c_21 (by decide))
  refine w_aload_n dX9_die_27 rfl ?_
  refine w_getR dX9_die_28 f_X9_29 (by first | assumption | rfl) rfl rfl ?_
  refine w_aload_n dX9_die_31 rfl ?_
  refine w_getR dX9_die_32 f_X9_19 (by first | assumption | rfl) rfl rfl ?_
  refine w_callVv dX9_die_35 k_X9_131 (by first | assumption | rfl) rfl (c_X0_remember hA) rfl rfl rfl (Nat.le_of_ble_eq_true rfl) (by first | decide | omega) ?_
  refine w_aload_n dX9_die_38 rfl ?_
  refine w_getR dX9_die_39 f_X9_19 (by first | assumption | rfl) rfl rfl ?_
  refine w_iload_n dX9_die_42 rfl ?_
  refine w_aload_n dX9_die_43 rfl ?_
  refine w_getR dX9_die_44 f_X9_44 (by first | assumption | rfl) rfl rfl ?_
  refine w_callVv dX9_die_47 k_X9_134 (by first | assumption | rfl) rfl (hlo) rfl rfl rfl (Nat.le_of_ble_eq_true rfl) (by first | decide | omega) ?_
  refine w_aload_n dX9_die_50 rfl ?_
  refine w_getR dX9_die_51 f_X9_19 (by first | assumption | rfl) rfl rfl ?_
  refine w_getI dX9_die_54 f_X9_94 (by first | assumption | rfl) rfl ?_
  exact w_ret dX9_die_57 ⟨_, rfl, by rw [← hl]; rfl, rfl, hl, scrL_LK (zlose_o _ _ _ _ _ _)⟩
set_option maxHeartbeats 4000000 in
set_option maxRecDepth 100000 in
theorem c_X9_bear_u {I : Mem} {J : Lng} {N m : Nat} (hP : PW (lnd I 3) N m) {p w : Int32} (hp : pin p N = none) : q_E yX9_bear cX9_bear 3 (some .int) 3 [.ref 0, .int p, .int w] I J (some (.int (-1))) (I) (J) := by
  have hh := c_X6_has l3 (I := I) (J := J) (p := p)
  rw [zhas_pin hP.FM, hp] at hh
  refine q_Ei me_X9_bear rfl (Nat.le_of_ble_eq_true rfl) ?_
  show q_w _ _ _ _ _ _ _ 0 [some (.ref 0), some (.int p), some (.int w)] [] I J
  refine w_aload_n dX9_bear_0 rfl ?_
  refine w_getR dX9_bear_1 f_X9_19 (by first | assumption | rfl) rfl rfl ?_
  refine w_iload_n dX9_bear_4 rfl ?_
  refine w_callVi dX9_bear_5 k_X9_112 (by first | assumption | rfl) rfl (hh) rfl rfl rfl (Nat.le_of_ble_eq_true rfl) (by first | decide | omega) ?_
  refine w_if_ne (tgt := 13) dX9_bear_8 (by decide) (fun c_8 => ?_) (fun c_8 => ?_)
  · exact absurd rfl c_8
  · refine w_iconst (v := (-1)) dX9_bear_11 (by decide) ?_
    exact w_ret dX9_bear_12 ⟨rfl, rfl, rfl⟩
set_option maxHeartbeats 4000000 in
set_option maxRecDepth 100000 in
theorem c_X9_bear_b {I : Mem} {J : Lng} {N m : Nat} (hP : PW (lnd I 3) N m) {p w : Int32} {j : Nat} (hp : pin p N = some j) (hw : pin w 2 = none) : q_E yX9_bear cX9_bear 3 (some .int) 3 [.ref 0, .int p, .int w] I J (some (.int (-2))) (I) (J) := by
  have hn7 := hP.2.1
  obtain ⟨hj, rfl⟩ := pin_some (by omega) hp
  have hm := p2_128 hn7 hP.2.2.2.1
  have hlv := cn_lives l3 (J := J) hP.FM hj hm hP.2.2.1
  have w0 : ¬ w = 0 := fun e => by rw [e] at hw; exact absurd hw (by decide)
  have w1 : ¬ w = 1 := fun e => by rw [e] at hw; exact absurd hw (by decide)
  refine q_Ei me_X9_bear rfl (Nat.le_of_ble_eq_true rfl) ?_
  show q_w _ _ _ _ _ _ _ 0 [some (.ref 0), some (.int (nI j)), some (.int w)] [] I J
  refine w_aload_n dX9_bear_0 rfl ?_
  refine w_getR dX9_bear_1 f_X9_19 (by first | assumption | rfl) rfl rfl ?_
  refine w_iload_n dX9_bear_4 rfl ?_
  refine w_callVi dX9_bear_5 k_X9_112 (by first | assumption | rfl) rfl (cn_has l3 hP.FM hj) rfl rfl rfl (Nat.le_of_ble_eq_true rfl) (by first | decide | omega) ?_
  refine w_if_ne (tgt := 13) dX9_bear_8 (by decide) (fun c_8 => ?_) (fun c_8 => absurd c_8 (by decide))
  refine w_iload_n dX9_bear_13 rfl ?_
  refine w_if_eq (tgt := 25) dX9_bear_14 (by decide) (fun c_14 => absurd c_14 w0) (fun c_14 => ?_)
  refine w_iload_n dX9_bear_17 rfl ?_
  refine w_iconst (v := 1) dX9_bear_18 (by decide) ?_
  refine w_icmp_eq (tgt := 25) dX9_bear_19 (by decide) (fun c_19 => absurd c_19 w1) (fun c_19 => ?_)
  refine w_bipush (v := (-2)) dX9_bear_22 (by decide) ?_
  exact w_ret dX9_bear_24 ⟨rfl, rfl, rfl⟩
set_option maxHeartbeats 4000000 in
set_option maxRecDepth 100000 in
theorem c_X9_bear_l {I : Mem} {J : Lng} {N m : Nat} (hP : PW (lnd I 3) N m) {p w : Int32} {j b : Nat} (hp : pin p N = some j) (hw : pin w 2 = some b) (hb : m.testBit j = false) : q_E yX9_bear cX9_bear 3 (some .int) 3 [.ref 0, .int p, .int w] I J (some (.int (-3))) (I) (J) := by
  have hn7 := hP.2.1
  obtain ⟨hj, rfl⟩ := pin_some (by omega) hp
  have hm := p2_128 hn7 hP.2.2.2.1
  have hlv := cn_lives l3 (J := J) hP.FM hj hm hP.2.2.1
  obtain ⟨hb2, rfl⟩ := pin_some (by decide) hw
  rw [hb] at hlv
  refine q_Ei me_X9_bear rfl (Nat.le_of_ble_eq_true rfl) ?_
  show q_w _ _ _ _ _ _ _ 0 [some (.ref 0), some (.int (nI j)), some (.int (nI b))] [] I J
  refine w_aload_n dX9_bear_0 rfl ?_
  refine w_getR dX9_bear_1 f_X9_19 (by first | assumption | rfl) rfl rfl ?_
  refine w_iload_n dX9_bear_4 rfl ?_
  refine w_callVi dX9_bear_5 k_X9_112 (by first | assumption | rfl) rfl (cn_has l3 hP.FM hj) rfl rfl rfl (Nat.le_of_ble_eq_true rfl) (by first | decide | omega) ?_
  refine w_if_ne (tgt := 13) dX9_bear_8 (by decide) (fun c_8 => ?_) (fun c_8 => absurd c_8 (by decide))
  refine w_iload_n dX9_bear_13 rfl ?_
  refine w_if_eq (tgt := 25) dX9_bear_14 (by decide) (fun c_14 => ?_) (fun c_14 => ?_)
  · refine w_aload_n dX9_bear_25 rfl ?_
    refine w_getR dX9_bear_26 f_X9_19 (by first | assumption | rfl) rfl rfl ?_
    refine w_iload_n dX9_bear_29 rfl ?_
    refine w_callVi dX9_bear_30 k_X9_125 (by first | assumption | rfl) rfl (hlv) rfl rfl rfl (Nat.le_of_ble_eq_true rfl) (by first | decide | omega) ?_
    refine w_if_ne (tgt := 39) dX9_bear_33 (by decide) (fun c_33 => absurd c_33 (fun q => q rfl)) (fun c_33 => ?_)
    refine w_bipush (v := (-3)) dX9_bear_36 (by decide) ?_
    exact w_ret dX9_bear_38 ⟨rfl, rfl, rfl⟩
  · refine w_iload_n dX9_bear_17 rfl ?_
    refine w_iconst (v := 1) dX9_bear_18 (by decide) ?_
    refine w_icmp_eq (tgt := 25) dX9_bear_19 (by decide) (fun c_19 => ?_) (fun c_19 => ?_)
    · refine w_aload_n dX9_bear_25 rfl ?_
      refine w_getR dX9_bear_26 f_X9_19 (by first | assumption | rfl) rfl rfl ?_
      refine w_iload_n dX9_bear_29 rfl ?_
      refine w_callVi dX9_bear_30 k_X9_125 (by first | assumption | rfl) rfl (hlv) rfl rfl rfl (Nat.le_of_ble_eq_true rfl) (by first | decide | omega) ?_
      refine w_if_ne (tgt := 39) dX9_bear_33 (by decide) (fun c_33 => absurd c_33 (fun q => q rfl)) (fun c_33 => ?_)
      refine w_bipush (v := (-3)) dX9_bear_36 (by decide) ?_
      exact w_ret dX9_bear_38 ⟨rfl, rfl, rfl⟩
    · exact absurd (show nI b = 0 ∨ nI b = 1 by rcases (show b = 0 ∨ b = 1 by omega) with rfl | rfl; exact Or.inl rfl; exact Or.inr rfl) (fun q => q.elim c_14 c_19)
set_option maxHeartbeats 4000000 in
set_option maxRecDepth 100000 in
theorem c_X9_bear_f {I : Mem} {J : Lng} {N m : Nat} (hP : PW (lnd I 3) N m) {p w : Int32} {j b : Nat} (hp : pin p N = some j) (hw : pin w 2 = some b) (hb : m.testBit j = true) (hN : N = 7) : q_E yX9_bear cX9_bear 3 (some .int) 3 [.ref 0, .int p, .int w] I J (some (.int (-4))) (I) (J) := by
  have hn7 := hP.2.1
  obtain ⟨hj, rfl⟩ := pin_some (by omega) hp
  have hm := p2_128 hn7 hP.2.2.2.1
  have hlv := cn_lives l3 (J := J) hP.FM hj hm hP.2.2.1
  obtain ⟨hb2, rfl⟩ := pin_some (by decide) hw
  rw [hb] at hlv
  have e3 : I 3 3 = nI N := hP.1
  refine q_Ei me_X9_bear rfl (Nat.le_of_ble_eq_true rfl) ?_
  show q_w _ _ _ _ _ _ _ 0 [some (.ref 0), some (.int (nI j)), some (.int (nI b))] [] I J
  refine w_aload_n dX9_bear_0 rfl ?_
  refine w_getR dX9_bear_1 f_X9_19 (by first | assumption | rfl) rfl rfl ?_
  refine w_iload_n dX9_bear_4 rfl ?_
  refine w_callVi dX9_bear_5 k_X9_112 (by first | assumption | rfl) rfl (cn_has l3 hP.FM hj) rfl rfl rfl (Nat.le_of_ble_eq_true rfl) (by first | decide | omega) ?_
  refine w_if_ne (tgt := 13) dX9_bear_8 (by decide) (fun c_8 => ?_) (fun c_8 => absurd c_8 (by decide))
  refine w_iload_n dX9_bear_13 rfl ?_
  refine w_if_eq (tgt := 25) dX9_bear_14 (by decide) (fun c_14 => ?_) (fun c_14 => ?_)
  · refine w_aload_n dX9_bear_25 rfl ?_
    refine w_getR dX9_bear_26 f_X9_19 (by first | assumption | rfl) rfl rfl ?_
    refine w_iload_n dX9_bear_29 rfl ?_
    refine w_callVi dX9_bear_30 k_X9_125 (by first | assumption | rfl) rfl (hlv) rfl rfl rfl (Nat.le_of_ble_eq_true rfl) (by first | decide | omega) ?_
    refine w_if_ne (tgt := 39) dX9_bear_33 (by decide) (fun c_33 => ?_) (fun c_33 => absurd c_33 (by decide))
    refine w_aload_n dX9_bear_39 rfl ?_
    refine w_getR dX9_bear_40 f_X9_19 (by first | assumption | rfl) rfl rfl ?_
    refine w_getI dX9_bear_43 f_X9_88 (by first | assumption | rfl) rfl ?_
    refine w_bipush (v := 7) dX9_bear_46 (by decide) ?_
    refine w_icmp_lt (tgt := 54) dX9_bear_48 (by decide) (fun c_48 => absurd c_48 (by rw [e3, hN]; decide)) (fun c_48 => ?_)
    refine w_bipush (v := (-4)) dX9_bear_51 (by decide) ?_
    exact w_ret dX9_bear_53 ⟨rfl, rfl, rfl⟩
  · refine w_iload_n dX9_bear_17 rfl ?_
    refine w_iconst (v := 1) dX9_bear_18 (by decide) ?_
    refine w_icmp_eq (tgt := 25) dX9_bear_19 (by decide) (fun c_19 => ?_) (fun c_19 => ?_)
    · refine w_aload_n dX9_bear_25 rfl ?_
      refine w_getR dX9_bear_26 f_X9_19 (by first | assumption | rfl) rfl rfl ?_
      refine w_iload_n dX9_bear_29 rfl ?_
      refine w_callVi dX9_bear_30 k_X9_125 (by first | assumption | rfl) rfl (hlv) rfl rfl rfl (Nat.le_of_ble_eq_true rfl) (by first | decide | omega) ?_
      refine w_if_ne (tgt := 39) dX9_bear_33 (by decide) (fun c_33 => ?_) (fun c_33 => absurd c_33 (by decide))
      refine w_aload_n dX9_bear_39 rfl ?_
      refine w_getR dX9_bear_40 f_X9_19 (by first | assumption | rfl) rfl rfl ?_
      refine w_getI dX9_bear_43 f_X9_88 (by first | assumption | rfl) rfl ?_
      refine w_bipush (v := 7) dX9_bear_46 (by decide) ?_
      refine w_icmp_lt (tgt := 54) dX9_bear_48 (by decide) (fun c_48 => absurd c_48 (by rw [e3, hN]; decide)) (fun c_48 => ?_)
      refine w_bipush (v := (-4)) dX9_bear_51 (by decide) ?_
      exact w_ret dX9_bear_53 ⟨rfl, rfl, rfl⟩
    · exact absurd (show nI b = 0 ∨ nI b = 1 by rcases (show b = 0 ∨ b = 1 by omega) with rfl | rfl; exact Or.inl rfl; exact Or.inr rfl) (fun q => q.elim c_14 c_19)
set_option maxHeartbeats 4000000 in
set_option maxRecDepth 100000 in
theorem c_X9_bear {I : Mem} {J : Lng} {N m f z : Nat} (hP : PW (lnd I 3) N m) (hA : AR I f z) {p w : Int32} {j b : Nat} (hp : pin p N = some j) (hw : pin w 2 = some b) (hb : m.testBit j = true) (hN : N < 7) : q_F yX9_bear cX9_bear 3 (some .int) 3 [.ref 0, .int p, .int w] I J (fun r I1 J1 => r = some (.int (nI N)) ∧ J1 = J ∧ lnd I1 3 = pgain (lnd I 3) N (nI j) (decide (b = 1)) 0 ∧ Fr scrL (zrem I f z) I1) := by
  have hn7 := hP.2.1
  obtain ⟨hj, rfl⟩ := pin_some (by omega) hp
  have hm := p2_128 hn7 hP.2.2.2.1
  have hlv := cn_lives l3 (J := J) hP.FM hj hm hP.2.2.1
  have hP1 : PW (lnd (zrem I f z) 3) N m := by rw [zrem_3]; exact hP
  obtain ⟨hb2, rfl⟩ := pin_some (by decide) hw
  rw [hb] at hlv
  have e3 : I 3 3 = nI N := hP.1
  have hz3 : zrem I f z 3 = I 3 := zrem_o I f z (by decide) (by decide)
  have hb01 : b = 0 ∨ b = 1 := by omega
  refine q_Fi me_X9_bear rfl (Nat.le_of_ble_eq_true rfl) ?_
  show q_w _ _ _ _ _ _ _ 0 [some (.ref 0), some (.int (nI j)), some (.int (nI b))] [] I J
  refine w_aload_n dX9_bear_0 rfl ?_
  refine w_getR dX9_bear_1 f_X9_19 (by first | assumption | rfl) rfl rfl ?_
  refine w_iload_n dX9_bear_4 rfl ?_
  refine w_callVi dX9_bear_5 k_X9_112 (by first | assumption | rfl) rfl (cn_has l3 hP.FM hj) rfl rfl rfl (Nat.le_of_ble_eq_true rfl) (by first | decide | omega) ?_
  refine w_if_ne (tgt := 13) dX9_bear_8 (by decide) (fun c_8 => ?_) (fun c_8 => absurd c_8 (by decide))
  refine w_iload_n dX9_bear_13 rfl ?_
  refine w_if_eq (tgt := 25) dX9_bear_14 (by decide) (fun c_14 => ?_) (fun c_14 => ?_)
  · refine w_aload_n dX9_bear_25 rfl ?_
    refine w_getR dX9_bear_26 f_X9_19 (by first | assumption | rfl) rfl rfl ?_
    refine w_iload_n dX9_bear_29 rfl ?_
    refine w_callVi dX9_bear_30 k_X9_125 (by first | assumption | rfl) rfl (hlv) rfl rfl rfl (Nat.le_of_ble_eq_true rfl) (by first | decide | omega) ?_
    refine w_if_ne (tgt := 39) dX9_bear_33 (by decide) (fun c_33 => ?_) (fun c_33 => absurd c_33 (by decide))
    refine w_aload_n dX9_bear_39 rfl ?_
    refine w_getR dX9_bear_40 f_X9_19 (by first | assumption | rfl) rfl rfl ?_
    refine w_getI dX9_bear_43 f_X9_88 (by first | assumption | rfl) rfl ?_
    refine w_bipush (v := 7) dX9_bear_46 (by decide) ?_
    refine w_icmp_lt (tgt := 54) dX9_bear_48 (by decide) (fun c_48 => ?_) (fun c_48 => absurd (by rw [e3]; exact nI_lt (b := 7) hN (by decide)) c_48)
    refine w_aload_n dX9_bear_54 rfl ?_
    refine w_getR dX9_bear_55 f_X9_29 (by first | assumption | rfl) rfl rfl ?_
    refine w_aload_n dX9_bear_58 rfl ?_
    refine w_getR dX9_bear_59 f_X9_19 (by first | assumption | rfl) rfl rfl ?_
    refine w_callVv dX9_bear_62 k_X9_131 (by first | assumption | rfl) rfl (c_X0_remember hA) rfl rfl rfl (Nat.le_of_ble_eq_true rfl) (by first | decide | omega) ?_
    refine w_aload_n dX9_bear_65 rfl ?_
    refine w_getR dX9_bear_66 f_X9_19 (by first | assumption | rfl) rfl rfl ?_
    refine w_iload_n dX9_bear_69 rfl ?_
    refine w_iload_n dX9_bear_70 rfl ?_
    refine w_iconst (v := 1) dX9_bear_71 (by decide) ?_
    refine w_icmp_ne (tgt := 79) dX9_bear_72 (by decide) (fun c_72 => ?_) (fun c_72 => ?_)
    · refine w_iconst (v := 0) dX9_bear_79 (by decide) ?_
      refine w_iconst (v := 0) dX9_bear_80 (by decide) ?_
      refine w_callVv dX9_bear_81 k_X9_138 (by first | assumption | rfl) rfl (c_X6_gains l3 hP1.FM hN (b := false)) rfl rfl rfl (Nat.le_of_ble_eq_true rfl) (by first | decide | omega) ?_
      refine w_aload_n dX9_bear_84 rfl ?_
      refine w_getR dX9_bear_85 f_X9_19 (by first | assumption | rfl) rfl rfl ?_
      refine w_getI dX9_bear_88 f_X9_88 (by first | assumption | rfl) rfl ?_
      refine w_iconst (v := 1) dX9_bear_91 (by decide) ?_
      refine w_isub dX9_bear_92 ?_
      have hb1 : decide (b = 1) = false := by
        simpa using fun e : b = 1 => c_72 (by rw [e]; rfl)
      have hl := zgain_l (I := zrem I f z) (t := 3) (n := N) (par := nI j) (age := 0) (b := decide (b = 1)) hN
      rw [zrem_3] at hl
      rw [hb1] at hl ⊢
      refine w_ret dX9_bear_93 ⟨_, rfl, ?_, rfl, hl, scrL_LO (zgain_o _ _ _ _ _ _)⟩
      rw [show zgain (zrem I f z) 3 N (nI j) false 0 3 3 = nI (N + 1) from upI_tt, nI_pred]
    · refine w_iconst (v := 1) dX9_bear_75 (by decide) ?_
      refine w_goto (tgt := 80) dX9_bear_76 (by decide) ?_
      refine w_iconst (v := 0) dX9_bear_80 (by decide) ?_
      refine w_callVv dX9_bear_81 k_X9_138 (by first | assumption | rfl) rfl (c_X6_gains l3 hP1.FM hN (b := true)) rfl rfl rfl (Nat.le_of_ble_eq_true rfl) (by first | decide | omega) ?_
      refine w_aload_n dX9_bear_84 rfl ?_
      refine w_getR dX9_bear_85 f_X9_19 (by first | assumption | rfl) rfl rfl ?_
      refine w_getI dX9_bear_88 f_X9_88 (by first | assumption | rfl) rfl ?_
      refine w_iconst (v := 1) dX9_bear_91 (by decide) ?_
      refine w_isub dX9_bear_92 ?_
      have hb1 : decide (b = 1) = true := by
        simpa using nI_inj (by omega) (by decide) c_72
      have hl := zgain_l (I := zrem I f z) (t := 3) (n := N) (par := nI j) (age := 0) (b := decide (b = 1)) hN
      rw [zrem_3] at hl
      rw [hb1] at hl ⊢
      refine w_ret dX9_bear_93 ⟨_, rfl, ?_, rfl, hl, scrL_LO (zgain_o _ _ _ _ _ _)⟩
      rw [show zgain (zrem I f z) 3 N (nI j) true 0 3 3 = nI (N + 1) from upI_tt, nI_pred]
  · refine w_iload_n dX9_bear_17 rfl ?_
    refine w_iconst (v := 1) dX9_bear_18 (by decide) ?_
    refine w_icmp_eq (tgt := 25) dX9_bear_19 (by decide) (fun c_19 => ?_) (fun c_19 => ?_)
    · refine w_aload_n dX9_bear_25 rfl ?_
      refine w_getR dX9_bear_26 f_X9_19 (by first | assumption | rfl) rfl rfl ?_
      refine w_iload_n dX9_bear_29 rfl ?_
      refine w_callVi dX9_bear_30 k_X9_125 (by first | assumption | rfl) rfl (hlv) rfl rfl rfl (Nat.le_of_ble_eq_true rfl) (by first | decide | omega) ?_
      refine w_if_ne (tgt := 39) dX9_bear_33 (by decide) (fun c_33 => ?_) (fun c_33 => absurd c_33 (by decide))
      refine w_aload_n dX9_bear_39 rfl ?_
      refine w_getR dX9_bear_40 f_X9_19 (by first | assumption | rfl) rfl rfl ?_
      refine w_getI dX9_bear_43 f_X9_88 (by first | assumption | rfl) rfl ?_
      refine w_bipush (v := 7) dX9_bear_46 (by decide) ?_
      refine w_icmp_lt (tgt := 54) dX9_bear_48 (by decide) (fun c_48 => ?_) (fun c_48 => absurd (by rw [e3]; exact nI_lt (b := 7) hN (by decide)) c_48)
      refine w_aload_n dX9_bear_54 rfl ?_
      refine w_getR dX9_bear_55 f_X9_29 (by first | assumption | rfl) rfl rfl ?_
      refine w_aload_n dX9_bear_58 rfl ?_
      refine w_getR dX9_bear_59 f_X9_19 (by first | assumption | rfl) rfl rfl ?_
      refine w_callVv dX9_bear_62 k_X9_131 (by first | assumption | rfl) rfl (c_X0_remember hA) rfl rfl rfl (Nat.le_of_ble_eq_true rfl) (by first | decide | omega) ?_
      refine w_aload_n dX9_bear_65 rfl ?_
      refine w_getR dX9_bear_66 f_X9_19 (by first | assumption | rfl) rfl rfl ?_
      refine w_iload_n dX9_bear_69 rfl ?_
      refine w_iload_n dX9_bear_70 rfl ?_
      refine w_iconst (v := 1) dX9_bear_71 (by decide) ?_
      refine w_icmp_ne (tgt := 79) dX9_bear_72 (by decide) (fun c_72 => ?_) (fun c_72 => ?_)
      · refine w_iconst (v := 0) dX9_bear_79 (by decide) ?_
        refine w_iconst (v := 0) dX9_bear_80 (by decide) ?_
        refine w_callVv dX9_bear_81 k_X9_138 (by first | assumption | rfl) rfl (c_X6_gains l3 hP1.FM hN (b := false)) rfl rfl rfl (Nat.le_of_ble_eq_true rfl) (by first | decide | omega) ?_
        refine w_aload_n dX9_bear_84 rfl ?_
        refine w_getR dX9_bear_85 f_X9_19 (by first | assumption | rfl) rfl rfl ?_
        refine w_getI dX9_bear_88 f_X9_88 (by first | assumption | rfl) rfl ?_
        refine w_iconst (v := 1) dX9_bear_91 (by decide) ?_
        refine w_isub dX9_bear_92 ?_
        have hb1 : decide (b = 1) = false := by
          simpa using fun e : b = 1 => c_72 (by rw [e]; rfl)
        have hl := zgain_l (I := zrem I f z) (t := 3) (n := N) (par := nI j) (age := 0) (b := decide (b = 1)) hN
        rw [zrem_3] at hl
        rw [hb1] at hl ⊢
        refine w_ret dX9_bear_93 ⟨_, rfl, ?_, rfl, hl, scrL_LO (zgain_o _ _ _ _ _ _)⟩
        rw [show zgain (zrem I f z) 3 N (nI j) false 0 3 3 = nI (N + 1) from upI_tt, nI_pred]
      · refine w_iconst (v := 1) dX9_bear_75 (by decide) ?_
        refine w_goto (tgt := 80) dX9_bear_76 (by decide) ?_
        refine w_iconst (v := 0) dX9_bear_80 (by decide) ?_
        refine w_callVv dX9_bear_81 k_X9_138 (by first | assumption | rfl) rfl (c_X6_gains l3 hP1.FM hN (b := true)) rfl rfl rfl (Nat.le_of_ble_eq_true rfl) (by first | decide | omega) ?_
        refine w_aload_n dX9_bear_84 rfl ?_
        refine w_getR dX9_bear_85 f_X9_19 (by first | assumption | rfl) rfl rfl ?_
        refine w_getI dX9_bear_88 f_X9_88 (by first | assumption | rfl) rfl ?_
        refine w_iconst (v := 1) dX9_bear_91 (by decide) ?_
        refine w_isub dX9_bear_92 ?_
        have hb1 : decide (b = 1) = true := by
          simpa using nI_inj (by omega) (by decide) c_72
        have hl := zgain_l (I := zrem I f z) (t := 3) (n := N) (par := nI j) (age := 0) (b := decide (b = 1)) hN
        rw [zrem_3] at hl
        rw [hb1] at hl ⊢
        refine w_ret dX9_bear_93 ⟨_, rfl, ?_, rfl, hl, scrL_LO (zgain_o _ _ _ _ _ _)⟩
        rw [show zgain (zrem I f z) 3 N (nI j) true 0 3 3 = nI (N + 1) from upI_tt, nI_pred]
    · exact absurd (show nI b = 0 ∨ nI b = 1 by rcases (show b = 0 ∨ b = 1 by omega) with rfl | rfl; exact Or.inl rfl; exact Or.inr rfl) (fun q => q.elim c_14 c_19)
set_option maxHeartbeats 4000000 in
set_option maxRecDepth 100000 in
theorem c_X9_cut_b {I : Mem} {J : Lng} {x : Int32} (hx : pin1 x 9 = none) : q_E yX9_cut cX9_cut 2 (some .int) 3 [.ref 0, .int x] I J (some (.int (-2))) (I) (J) := by
  refine q_Ei me_X9_cut rfl (Nat.le_of_ble_eq_true rfl) ?_
  show q_w _ _ _ _ _ _ _ 0 [some (.ref 0), some (.int x)] [] I J
  refine w_iload_n dX9_cut_0 rfl ?_
  refine w_iconst (v := 1) dX9_cut_1 (by decide) ?_
  refine w_icmp_lt (tgt := 11) dX9_cut_2 (by decide) (fun c_2 => ?_) (fun c_2 => ?_)
  · refine w_bipush (v := (-2)) dX9_cut_11 (by decide) ?_
    exact w_ret dX9_cut_13 ⟨rfl, rfl, rfl⟩
  · refine w_iload_n dX9_cut_5 rfl ?_
    refine w_bipush (v := 9) dX9_cut_6 (by decide) ?_
    refine w_icmp_le (tgt := 14) dX9_cut_8 (by decide) (fun c_8 => absurd c_8 (p1_le hx c_2 (by decide))) (fun c_8 => ?_)
    refine w_bipush (v := (-2)) dX9_cut_11 (by decide) ?_
    exact w_ret dX9_cut_13 ⟨rfl, rfl, rfl⟩
set_option maxHeartbeats 4000000 in
set_option maxRecDepth 100000 in
theorem c_X9_cut_l {I : Mem} {J : Lng} {x : Int32} {k : Nat} (hx : pin1 x 9 = some k) (hl : lnd I 3 3 < x ∨ lnd I 3 1 = -9) : q_E yX9_cut cX9_cut 2 (some .int) 3 [.ref 0, .int x] I J (some (.int (-3))) (I) (J) := by
  obtain ⟨h1, h2, rfl⟩ := pin1_some (by decide) hx
  refine q_Ei me_X9_cut rfl (Nat.le_of_ble_eq_true rfl) ?_
  show q_w _ _ _ _ _ _ _ 0 [some (.ref 0), some (.int (nI k))] [] I J
  refine w_iload_n dX9_cut_0 rfl ?_
  refine w_iconst (v := 1) dX9_cut_1 (by decide) ?_
  refine w_icmp_lt (tgt := 11) dX9_cut_2 (by decide) (fun c_2 => absurd c_2 (nI_1le h1 (by omega))) (fun c_2 => ?_)
  refine w_iload_n dX9_cut_5 rfl ?_
  refine w_bipush (v := 9) dX9_cut_6 (by decide) ?_
  refine w_icmp_le (tgt := 14) dX9_cut_8 (by decide) (fun c_8 => ?_) (fun c_8 => absurd (nI_le (b := 9) h2 (by decide)) c_8)
  refine w_aload_n dX9_cut_14 rfl ?_
  refine w_getR dX9_cut_15 f_X9_19 (by first | assumption | rfl) rfl rfl ?_
  refine w_getI dX9_cut_18 f_X9_100 (by first | assumption | rfl) rfl ?_
  refine w_iload_n dX9_cut_21 rfl ?_
  refine w_icmp_lt (tgt := 37) dX9_cut_22 (by decide) (fun c_22 => ?_) (fun c_22 => ?_)
  · refine w_bipush (v := (-3)) dX9_cut_37 (by decide) ?_
    exact w_ret dX9_cut_39 ⟨rfl, rfl, rfl⟩
  · refine w_aload_n dX9_cut_25 rfl ?_
    refine w_getR dX9_cut_26 f_X9_19 (by first | assumption | rfl) rfl rfl ?_
    refine w_getI dX9_cut_29 f_X9_94 (by first | assumption | rfl) rfl ?_
    refine w_bipush (v := (-9)) dX9_cut_32 (by decide) ?_
    refine w_icmp_ne (tgt := 40) dX9_cut_34 (by decide) (fun c_34 => ?_) (fun c_34 => ?_)
    · exact absurd hl (fun q => q.elim c_22 c_34)
    · refine w_bipush (v := (-3)) dX9_cut_37 (by decide) ?_
      exact w_ret dX9_cut_39 ⟨rfl, rfl, rfl⟩
set_option maxHeartbeats 4000000 in
set_option maxRecDepth 100000 in
theorem c_X9_cut {I : Mem} {J : Lng} {f z : Nat} (hA : AR I f z) {x : Int32} {k : Nat} (hx : pin1 x 9 = some k) (hl : ¬ lnd I 3 3 < x) (hh : ¬ lnd I 3 1 = -9) : q_F yX9_cut cX9_cut 2 (some .int) 3 [.ref 0, .int x] I J (fun r I1 J1 => r = some (.int (lnd I 3 3 - x)) ∧ J1 = J ∧ lnd I1 3 = upd (lnd I 3) 3 (lnd I 3 3 - x) ∧ Fr scrL (zrem I f z) I1) := by
  obtain ⟨h1, h2, rfl⟩ := pin1_some (by decide) hx
  have hz3 : zrem I f z 3 = I 3 := zrem_o I f z (by decide) (by decide)
  refine q_Fi me_X9_cut rfl (Nat.le_of_ble_eq_true rfl) ?_
  show q_w _ _ _ _ _ _ _ 0 [some (.ref 0), some (.int (nI k))] [] I J
  refine w_iload_n dX9_cut_0 rfl ?_
  refine w_iconst (v := 1) dX9_cut_1 (by decide) ?_
  refine w_icmp_lt (tgt := 11) dX9_cut_2 (by decide) (fun c_2 => absurd c_2 (nI_1le h1 (by omega))) (fun c_2 => ?_)
  refine w_iload_n dX9_cut_5 rfl ?_
  refine w_bipush (v := 9) dX9_cut_6 (by decide) ?_
  refine w_icmp_le (tgt := 14) dX9_cut_8 (by decide) (fun c_8 => ?_) (fun c_8 => absurd (nI_le (b := 9) h2 (by decide)) c_8)
  refine w_aload_n dX9_cut_14 rfl ?_
  refine w_getR dX9_cut_15 f_X9_19 (by first | assumption | rfl) rfl rfl ?_
  refine w_getI dX9_cut_18 f_X9_100 (by first | assumption | rfl) rfl ?_
  refine w_iload_n dX9_cut_21 rfl ?_
  refine w_icmp_lt (tgt := 37) dX9_cut_22 (by decide) (fun c_22 => absurd c_22 hl) (fun c_22 => ?_)
  refine w_aload_n dX9_cut_25 rfl ?_
  refine w_getR dX9_cut_26 f_X9_19 (by first | assumption | rfl) rfl rfl ?_
  refine w_getI dX9_cut_29 f_X9_94 (by first | assumption | rfl) rfl ?_
  refine w_bipush (v := (-9)) dX9_cut_32 (by decide) ?_
  refine w_icmp_ne (tgt := 40) dX9_cut_34 (by decide) (fun c_34 => ?_) (fun c_34 => absurd c_34 hh)
  refine w_aload_n dX9_cut_40 rfl ?_
  refine w_getR dX9_cut_41 f_X9_29 (by first | assumption | rfl) rfl rfl ?_
  refine w_aload_n dX9_cut_44 rfl ?_
  refine w_getR dX9_cut_45 f_X9_19 (by first | assumption | rfl) rfl rfl ?_
  refine w_callVv dX9_cut_48 k_X9_131 (by first | assumption | rfl) rfl (c_X0_remember hA) rfl rfl rfl (Nat.le_of_ble_eq_true rfl) (by first | decide | omega) ?_
  refine w_aload_n dX9_cut_51 rfl ?_
  refine w_getR dX9_cut_52 f_X9_19 (by first | assumption | rfl) rfl rfl ?_
  refine w_dup dX9_cut_55 rfl ?_
  refine w_getI dX9_cut_56 f_X9_100 (by first | assumption | rfl) rfl ?_
  refine w_iload_n dX9_cut_59 rfl ?_
  refine w_isub dX9_cut_60 ?_
  refine w_putI dX9_cut_61 f_X9_100 (by first | assumption | rfl) rfl ?_
  rw [hz3]
  refine w_aload_n dX9_cut_64 rfl ?_
  refine w_getR dX9_cut_65 f_X9_19 (by first | assumption | rfl) rfl rfl ?_
  refine w_getI dX9_cut_68 f_X9_100 (by first | assumption | rfl) rfl ?_
  exact w_ret dX9_cut_71 ⟨_, rfl, by rw [upI_tt]; rfl, rfl, by rw [lnd_f (f := 7) (k := 3) (by omega), zrem_3]; rfl, Fr.rf.up (by decide)⟩
set_option maxHeartbeats 4000000 in
set_option maxRecDepth 100000 in
theorem c_X9_borrow_b {I : Mem} {J : Lng} {x : Int32} (hx : pin1 x 9 = none) : q_E yX9_borrow cX9_borrow 2 (some .int) 3 [.ref 0, .int x] I J (some (.int (-2))) (I) (J) := by
  refine q_Ei me_X9_borrow rfl (Nat.le_of_ble_eq_true rfl) ?_
  show q_w _ _ _ _ _ _ _ 0 [some (.ref 0), some (.int x)] [] I J
  refine w_iload_n dX9_borrow_0 rfl ?_
  refine w_iconst (v := 1) dX9_borrow_1 (by decide) ?_
  refine w_icmp_lt (tgt := 11) dX9_borrow_2 (by decide) (fun c_2 => ?_) (fun c_2 => ?_)
  · refine w_bipush (v := (-2)) dX9_borrow_11 (by decide) ?_
    exact w_ret dX9_borrow_13 ⟨rfl, rfl, rfl⟩
  · refine w_iload_n dX9_borrow_5 rfl ?_
    refine w_bipush (v := 9) dX9_borrow_6 (by decide) ?_
    refine w_icmp_le (tgt := 14) dX9_borrow_8 (by decide) (fun c_8 => absurd c_8 (p1_le hx c_2 (by decide))) (fun c_8 => ?_)
    refine w_bipush (v := (-2)) dX9_borrow_11 (by decide) ?_
    exact w_ret dX9_borrow_13 ⟨rfl, rfl, rfl⟩
set_option maxHeartbeats 4000000 in
set_option maxRecDepth 100000 in
theorem c_X9_borrow_l {I : Mem} {J : Lng} {x : Int32} {k : Nat} (hx : pin1 x 9 = some k) (hl : 9 < lnd I 3 4 + x ∨ lnd I 3 1 = -9) : q_E yX9_borrow cX9_borrow 2 (some .int) 3 [.ref 0, .int x] I J (some (.int (-3))) (I) (J) := by
  obtain ⟨h1, h2, rfl⟩ := pin1_some (by decide) hx
  refine q_Ei me_X9_borrow rfl (Nat.le_of_ble_eq_true rfl) ?_
  show q_w _ _ _ _ _ _ _ 0 [some (.ref 0), some (.int (nI k))] [] I J
  refine w_iload_n dX9_borrow_0 rfl ?_
  refine w_iconst (v := 1) dX9_borrow_1 (by decide) ?_
  refine w_icmp_lt (tgt := 11) dX9_borrow_2 (by decide) (fun c_2 => absurd c_2 (nI_1le h1 (by omega))) (fun c_2 => ?_)
  refine w_iload_n dX9_borrow_5 rfl ?_
  refine w_bipush (v := 9) dX9_borrow_6 (by decide) ?_
  refine w_icmp_le (tgt := 14) dX9_borrow_8 (by decide) (fun c_8 => ?_) (fun c_8 => absurd (nI_le (b := 9) h2 (by decide)) c_8)
  refine w_aload_n dX9_borrow_14 rfl ?_
  refine w_getR dX9_borrow_15 f_X9_19 (by first | assumption | rfl) rfl rfl ?_
  refine w_getI dX9_borrow_18 f_X9_103 (by first | assumption | rfl) rfl ?_
  refine w_iload_n dX9_borrow_21 rfl ?_
  refine w_iadd dX9_borrow_22 ?_
  refine w_bipush (v := 9) dX9_borrow_23 (by decide) ?_
  refine w_icmp_gt (tgt := 40) dX9_borrow_25 (by decide) (fun c_25 => ?_) (fun c_25 => ?_)
  · refine w_bipush (v := (-3)) dX9_borrow_40 (by decide) ?_
    exact w_ret dX9_borrow_42 ⟨rfl, rfl, rfl⟩
  · refine w_aload_n dX9_borrow_28 rfl ?_
    refine w_getR dX9_borrow_29 f_X9_19 (by first | assumption | rfl) rfl rfl ?_
    refine w_getI dX9_borrow_32 f_X9_94 (by first | assumption | rfl) rfl ?_
    refine w_bipush (v := (-9)) dX9_borrow_35 (by decide) ?_
    refine w_icmp_ne (tgt := 43) dX9_borrow_37 (by decide) (fun c_37 => ?_) (fun c_37 => ?_)
    · exact absurd hl (fun q => q.elim c_25 c_37)
    · refine w_bipush (v := (-3)) dX9_borrow_40 (by decide) ?_
      exact w_ret dX9_borrow_42 ⟨rfl, rfl, rfl⟩
set_option maxHeartbeats 4000000 in
set_option maxRecDepth 100000 in
theorem c_X9_borrow {I : Mem} {J : Lng} {f z : Nat} (hA : AR I f z) {x : Int32} {k : Nat} (hx : pin1 x 9 = some k) (hl : ¬ 9 < lnd I 3 4 + x) (hh : ¬ lnd I 3 1 = -9) : q_F yX9_borrow cX9_borrow 2 (some .int) 3 [.ref 0, .int x] I J (fun r I1 J1 => r = some (.int (lnd I 3 4 + x)) ∧ J1 = J ∧ lnd I1 3 = upd (lnd I 3) 4 (lnd I 3 4 + x) ∧ Fr scrL (zrem I f z) I1) := by
  obtain ⟨h1, h2, rfl⟩ := pin1_some (by decide) hx
  have hz3 : zrem I f z 3 = I 3 := zrem_o I f z (by decide) (by decide)
  refine q_Fi me_X9_borrow rfl (Nat.le_of_ble_eq_true rfl) ?_
  show q_w _ _ _ _ _ _ _ 0 [some (.ref 0), some (.int (nI k))] [] I J
  refine w_iload_n dX9_borrow_0 rfl ?_
  refine w_iconst (v := 1) dX9_borrow_1 (by decide) ?_
  refine w_icmp_lt (tgt := 11) dX9_borrow_2 (by decide) (fun c_2 => absurd c_2 (nI_1le h1 (by omega))) (fun c_2 => ?_)
  refine w_iload_n dX9_borrow_5 rfl ?_
  refine w_bipush (v := 9) dX9_borrow_6 (by decide) ?_
  refine w_icmp_le (tgt := 14) dX9_borrow_8 (by decide) (fun c_8 => ?_) (fun c_8 => absurd (nI_le (b := 9) h2 (by decide)) c_8)
  refine w_aload_n dX9_borrow_14 rfl ?_
  refine w_getR dX9_borrow_15 f_X9_19 (by first | assumption | rfl) rfl rfl ?_
  refine w_getI dX9_borrow_18 f_X9_103 (by first | assumption | rfl) rfl ?_
  refine w_iload_n dX9_borrow_21 rfl ?_
  refine w_iadd dX9_borrow_22 ?_
  refine w_bipush (v := 9) dX9_borrow_23 (by decide) ?_
  refine w_icmp_gt (tgt := 40) dX9_borrow_25 (by decide) (fun c_25 => absurd c_25 hl) (fun c_25 => ?_)
  refine w_aload_n dX9_borrow_28 rfl ?_
  refine w_getR dX9_borrow_29 f_X9_19 (by first | assumption | rfl) rfl rfl ?_
  refine w_getI dX9_borrow_32 f_X9_94 (by first | assumption | rfl) rfl ?_
  refine w_bipush (v := (-9)) dX9_borrow_35 (by decide) ?_
  refine w_icmp_ne (tgt := 43) dX9_borrow_37 (by decide) (fun c_37 => ?_) (fun c_37 => absurd c_37 hh)
  refine w_aload_n dX9_borrow_43 rfl ?_
  refine w_getR dX9_borrow_44 f_X9_29 (by first | assumption | rfl) rfl rfl ?_
  refine w_aload_n dX9_borrow_47 rfl ?_
  refine w_getR dX9_borrow_48 f_X9_19 (by first | assumption | rfl) rfl rfl ?_
  refine w_callVv dX9_borrow_51 k_X9_131 (by first | assumption | rfl) rfl (c_X0_remember hA) rfl rfl rfl (Nat.le_of_ble_eq_true rfl) (by first | decide | omega) ?_
  refine w_aload_n dX9_borrow_54 rfl ?_
  refine w_getR dX9_borrow_55 f_X9_19 (by first | assumption | rfl) rfl rfl ?_
  refine w_dup dX9_borrow_58 rfl ?_
  refine w_getI dX9_borrow_59 f_X9_103 (by first | assumption | rfl) rfl ?_
  refine w_iload_n dX9_borrow_62 rfl ?_
  refine w_iadd dX9_borrow_63 ?_
  refine w_putI dX9_borrow_64 f_X9_103 (by first | assumption | rfl) rfl ?_
  rw [hz3]
  refine w_aload_n dX9_borrow_67 rfl ?_
  refine w_getR dX9_borrow_68 f_X9_19 (by first | assumption | rfl) rfl rfl ?_
  refine w_getI dX9_borrow_71 f_X9_103 (by first | assumption | rfl) rfl ?_
  exact w_ret dX9_borrow_74 ⟨_, rfl, by rw [upI_tt]; rfl, rfl, by rw [lnd_f (f := 8) (k := 4) (by omega), zrem_3]; rfl, Fr.rf.up (by decide)⟩
set_option maxHeartbeats 4000000 in
set_option maxRecDepth 100000 in
theorem c_X9_tens {I : Mem} {J : Lng} {N m f z : Nat} (hP : PW (lnd I 3) N m) (hA : AR I f z) : q_F yX9_tens cX9_tens 1 (some .int) 3 [.ref 0] I J (fun r I1 J1 => r = some (.int (lnd I 3 5 + 1)) ∧ J1 = J ∧ lnd I1 3 = pgrow (lnd I 3) N ∧ Fr scrL (zrem I f z) I1) := by
  have hP1 : PW (lnd (zrem I f z) 3) N m := by rw [zrem_3]; exact hP
  have hl := zgrow_l (I := zrem I f z) (t := 3) hP.2.1
  rw [zrem_3] at hl
  refine q_Fi me_X9_tens rfl (Nat.le_of_ble_eq_true rfl) ?_
  show q_w _ _ _ _ _ _ _ 0 [some (.ref 0)] [] I J
  refine w_aload_n dX9_tens_0 rfl ?_
  refine w_getR dX9_tens_1 f_X9_29 (by first | assumption | rfl) rfl rfl ?_
  refine w_aload_n dX9_tens_4 rfl ?_
  refine w_getR dX9_tens_5 f_X9_19 (by first | assumption | rfl) rfl rfl ?_
  refine w_callVv dX9_tens_8 k_X9_131 (by first | assumption | rfl) rfl (c_X0_remember hA) rfl rfl rfl (Nat.le_of_ble_eq_true rfl) (by first | decide | omega) ?_
  refine w_aload_n dX9_tens_11 rfl ?_
  refine w_getR dX9_tens_12 f_X9_19 (by first | assumption | rfl) rfl rfl ?_
  refine w_callVv dX9_tens_15 k_X9_149 (by first | assumption | rfl) rfl (c_X6_grows l3 hP1.FM) rfl rfl rfl (Nat.le_of_ble_eq_true rfl) (by first | decide | omega) ?_
  refine w_aload_n dX9_tens_18 rfl ?_
  refine w_getR dX9_tens_19 f_X9_19 (by first | assumption | rfl) rfl rfl ?_
  refine w_getI dX9_tens_22 f_X9_106 (by first | assumption | rfl) rfl ?_
  refine w_ret dX9_tens_25 ⟨_, rfl, ?_, rfl, hl, scrL_LO (zgrow_o _ _ _)⟩
  rw [show zgrow (zrem I f z) 3 N 3 9 = zrem I f z 3 9 + 1 from upI_tt, zrem_o I f z (by decide) (by decide)]; rfl
set_option maxHeartbeats 4000000 in
set_option maxRecDepth 100000 in
theorem c_X9_undo_l {I : Mem} {J : Lng} {f z : Nat} (hA : AR I f z) (hz : z = 0) : q_E yX9_undo cX9_undo 1 (some .int) 3 [.ref 0] I J (some (.int (-3))) (I) (J) := by
  refine q_Ei me_X9_undo rfl (Nat.le_of_ble_eq_true rfl) ?_
  show q_w _ _ _ _ _ _ _ 0 [some (.ref 0)] [] I J
  refine w_aload_n dX9_undo_0 rfl ?_
  refine w_getR dX9_undo_1 f_X9_29 (by first | assumption | rfl) rfl rfl ?_
  refine w_aload_n dX9_undo_4 rfl ?_
  refine w_getR dX9_undo_5 f_X9_19 (by first | assumption | rfl) rfl rfl ?_
  refine w_callVi dX9_undo_8 k_X9_152 (by first | assumption | rfl) rfl (c_X0_takeBack_0 hA hz) rfl rfl rfl (Nat.le_of_ble_eq_true rfl) (by first | decide | omega) ?_
  refine w_if_eq (tgt := 24) dX9_undo_11 (by decide) (fun c_11 => ?_) (fun c_11 => absurd (rfl : (0 : Int32) = 0) c_11)
  refine w_bipush (v := (-3)) dX9_undo_24 (by decide) ?_
  exact w_ret dX9_undo_26 ⟨rfl, rfl, rfl⟩
set_option maxHeartbeats 4000000 in
set_option maxRecDepth 100000 in
theorem c_X9_undo {I : Mem} {J : Lng} {f z : Nat} (hA : AR I f z) (hz : 0 < z) : q_E yX9_undo cX9_undo 1 (some .int) 3 [.ref 0] I J (some (.int (nI (z - 1)))) (ztak I f z) (J) := by
  refine q_Ei me_X9_undo rfl (Nat.le_of_ble_eq_true rfl) ?_
  show q_w _ _ _ _ _ _ _ 0 [some (.ref 0)] [] I J
  refine w_aload_n dX9_undo_0 rfl ?_
  refine w_getR dX9_undo_1 f_X9_29 (by first | assumption | rfl) rfl rfl ?_
  refine w_aload_n dX9_undo_4 rfl ?_
  refine w_getR dX9_undo_5 f_X9_19 (by first | assumption | rfl) rfl rfl ?_
  refine w_callVi dX9_undo_8 k_X9_152 (by first | assumption | rfl) rfl (c_X0_takeBack hA hz) rfl rfl rfl (Nat.le_of_ble_eq_true rfl) (by first | decide | omega) ?_
  refine w_if_eq (tgt := 24) dX9_undo_11 (by decide) (fun c_11 => absurd c_11 (by decide)) (fun c_11 => ?_)
  refine w_aload_n dX9_undo_14 rfl ?_
  refine w_getR dX9_undo_15 f_X9_29 (by first | assumption | rfl) rfl rfl ?_
  refine w_getI dX9_undo_18 f_X9_109 (by first | assumption | rfl) rfl ?_
  refine w_goto (tgt := 26) dX9_undo_21 (by decide) ?_
  refine w_ret dX9_undo_26 ⟨?_, rfl, rfl⟩
  unfold ztak
  rw [zcopy_o _ _ _ 9 (by decide) (by decide) (by decide), upI_tt]
set_option maxHeartbeats 4000000 in
set_option maxRecDepth 100000 in
theorem c_X9_breakTie_b {I : Mem} {J : Lng} {t : Int32} (ht : pin t 4 = none) : q_E yX9_breakTie cX9_breakTie 3 (some .int) 33 [.ref 0, .int t] I J (some (.int (-2))) (I) (J) := by
  have hti := c_X9_isTie (I := I) (J := J) (t := t)
  rw [ht] at hti
  refine q_Ei me_X9_breakTie rfl (Nat.le_of_ble_eq_true rfl) ?_
  show q_w _ _ _ _ _ _ _ 0 [some (.ref 0), some (.int t), none] [] I J
  refine w_iload_n dX9_breakTie_0 rfl ?_
  refine w_callSi dX9_breakTie_1 k_X9_142 (hti) rfl rfl rfl (Nat.le_of_ble_eq_true rfl) (by first | decide | omega) ?_
  refine w_if_ne (tgt := 10) dX9_breakTie_4 (by decide) (fun c_4 => absurd c_4 (fun q => q rfl)) (fun c_4 => ?_)
  refine w_bipush (v := (-2)) dX9_breakTie_7 (by decide) ?_
  exact w_ret dX9_breakTie_9 ⟨rfl, rfl, rfl⟩
set_option maxHeartbeats 4000000 in
set_option maxRecDepth 100000 in
theorem c_X9_breakTie_l {I : Mem} {J : Lng} {N m : Nat} (hP : PW (lnd I 3) N m) {t : Int32} {k : Nat} (ht : pin t 4 = some k) (hc : pchild (lnd I 3) N m = false ∨ lnd I 3 2 = t) : q_F yX9_breakTie cX9_breakTie 3 (some .int) 33 [.ref 0, .int t] I J (fun r I1 J1 => r = some (.int (-3)) ∧ J1 = J ∧ Fr scr I I1) := by
  have hti := c_X9_isTie (I := I) (J := J) (t := t)
  rw [ht, Option.isSome_some, zB_t] at hti
  refine q_Fi me_X9_breakTie rfl (Nat.le_of_ble_eq_true rfl) ?_
  show q_w _ _ _ _ _ _ _ 0 [some (.ref 0), some (.int t), none] [] I J
  refine w_iload_n dX9_breakTie_0 rfl ?_
  refine w_callSi dX9_breakTie_1 k_X9_142 (hti) rfl rfl rfl (Nat.le_of_ble_eq_true rfl) (by first | decide | omega) ?_
  refine w_if_ne (tgt := 10) dX9_breakTie_4 (by decide) (fun c_4 => ?_) (fun c_4 => absurd c_4 (by decide))
  refine w_aload_n dX9_breakTie_10 rfl ?_
  refine w_callVF dX9_breakTie_11 k_X9_145 (by first | assumption | rfl) rfl (c_X9_hasChild hP) rfl rfl rfl (Nat.le_of_ble_eq_true rfl) (by first | decide | omega) (fun r_11 I_11 J_11 h_11 => ?_)
  obtain ⟨rfl, rfl, hfr⟩ := h_11
  have h3 : I_11 3 = I 3 := hfr 3 (by decide)
  refine w_if_eq (tgt := 28) dX9_breakTie_14 (by decide) (fun c_14 => ?_) (fun c_14 => ?_)
  · refine w_bipush (v := (-3)) dX9_breakTie_28 (by decide) ?_
    exact w_ret dX9_breakTie_30 ⟨_, rfl, rfl, rfl, hfr⟩
  · refine w_aload_n dX9_breakTie_17 rfl ?_
    refine w_getR dX9_breakTie_18 f_X9_19 (by first | assumption | rfl) rfl rfl ?_
    refine w_getI dX9_breakTie_21 f_X9_97 (by first | assumption | rfl) rfl ?_
    refine w_iload_n dX9_breakTie_24 rfl ?_
    refine w_icmp_ne (tgt := 31) dX9_breakTie_25 (by decide) (fun c_25 => ?_) (fun c_25 => ?_)
    · have e2 : I_11 3 6 = lnd I 3 2 := by rw [h3]; rfl
      have e1 : pchild (lnd I 3) N m = true := by simpa [zB_eq0] using c_14
      rcases hc with hc | hc
      · rw [hc] at e1; cases e1
      · exact absurd (e2.trans hc) c_25
    · refine w_bipush (v := (-3)) dX9_breakTie_28 (by decide) ?_
      exact w_ret dX9_breakTie_30 ⟨_, rfl, rfl, rfl, hfr⟩
set_option maxHeartbeats 4000000 in
set_option maxRecDepth 100000 in
theorem c_X9_breakTie {I : Mem} {J : Lng} {N m f z : Nat} (hP : PW (lnd I 3) N m) (hA : AR I f z) {t : Int32} {k : Nat} (ht : pin t 4 = some k) (hc : pchild (lnd I 3) N m = true) (hne : ¬ lnd I 3 2 = t) : q_F yX9_breakTie cX9_breakTie 3 (some .int) 33 [.ref 0, .int t] I J (fun r I1 J1 => r = some (.int (lnd I 3 2)) ∧ J1 = J ∧ lnd I1 3 = upd (lnd I 3) 2 t ∧ Fr scrL (zrem I f z) I1) := by
  have hti := c_X9_isTie (I := I) (J := J) (t := t)
  rw [ht, Option.isSome_some, zB_t] at hti
  refine q_Fi me_X9_breakTie rfl (Nat.le_of_ble_eq_true rfl) ?_
  show q_w _ _ _ _ _ _ _ 0 [some (.ref 0), some (.int t), none] [] I J
  refine w_iload_n dX9_breakTie_0 rfl ?_
  refine w_callSi dX9_breakTie_1 k_X9_142 (hti) rfl rfl rfl (Nat.le_of_ble_eq_true rfl) (by first | decide | omega) ?_
  refine w_if_ne (tgt := 10) dX9_breakTie_4 (by decide) (fun c_4 => ?_) (fun c_4 => absurd c_4 (by decide))
  refine w_aload_n dX9_breakTie_10 rfl ?_
  refine w_callVF dX9_breakTie_11 k_X9_145 (by first | assumption | rfl) rfl (c_X9_hasChild hP) rfl rfl rfl (Nat.le_of_ble_eq_true rfl) (by first | decide | omega) (fun r_11 I_11 J_11 h_11 => ?_)
  obtain ⟨rfl, rfl, hfr⟩ := h_11
  have h3 : I_11 3 = I 3 := hfr 3 (by decide)
  refine w_if_eq (tgt := 28) dX9_breakTie_14 (by decide) (fun c_14 => absurd c_14 (by rw [hc]; decide)) (fun c_14 => ?_)
  refine w_aload_n dX9_breakTie_17 rfl ?_
  refine w_getR dX9_breakTie_18 f_X9_19 (by first | assumption | rfl) rfl rfl ?_
  refine w_getI dX9_breakTie_21 f_X9_97 (by first | assumption | rfl) rfl ?_
  refine w_iload_n dX9_breakTie_24 rfl ?_
  refine w_icmp_ne (tgt := 31) dX9_breakTie_25 (by decide) (fun c_25 => ?_) (fun c_25 => absurd c_25 (by rw [h3]; exact hne))
  refine w_aload_n dX9_breakTie_31 rfl ?_
  refine w_getR dX9_breakTie_32 f_X9_29 (by first | assumption | rfl) rfl rfl ?_
  refine w_aload_n dX9_breakTie_35 rfl ?_
  refine w_getR dX9_breakTie_36 f_X9_19 (by first | assumption | rfl) rfl rfl ?_
  refine w_callVv dX9_breakTie_39 k_X9_131 (by first | assumption | rfl) rfl (c_X0_remember (hA.fr (hfr 9 (by decide)))) rfl rfl rfl (Nat.le_of_ble_eq_true rfl) (by first | decide | omega) ?_
  refine w_aload_n dX9_breakTie_42 rfl ?_
  refine w_getR dX9_breakTie_43 f_X9_19 (by first | assumption | rfl) rfl rfl ?_
  refine w_getI dX9_breakTie_46 f_X9_97 (by first | assumption | rfl) rfl ?_
  refine w_istore_n dX9_breakTie_49 (by decide) rfl ?_
  refine w_aload_n dX9_breakTie_50 rfl ?_
  refine w_getR dX9_breakTie_51 f_X9_19 (by first | assumption | rfl) rfl rfl ?_
  refine w_iload_n dX9_breakTie_54 rfl ?_
  refine w_putI dX9_breakTie_55 f_X9_97 (by first | assumption | rfl) rfl ?_
  refine w_iload_n dX9_breakTie_58 rfl ?_
  have hz3 : zrem I_11 f z 3 = I 3 := by rw [zrem_o I_11 f z (by decide) (by decide), h3]
  have hl3 : lnd I_11 3 = lnd I 3 := hfr.land (by decide) (by decide) (by decide)
  refine w_ret dX9_breakTie_59 ⟨_, rfl, by rw [hz3]; rfl, rfl, ?_, (scrL_of (zrem_fr hfr)).up (by decide)⟩
  rw [lnd_f (f := 6) (k := 2) (by omega), zrem_3, hl3]
