set_option maxHeartbeats 4000000 in
set_option maxRecDepth 100000 in
theorem c_X9_heir_u {I : Mem} {J : Lng} {N m : Nat} (hP : PW (lnd I 3) N m) {p t : Int32} (hp : pin p N = none) : q_E yX9_heir cX9_heir 3 (some .int) 32 [.ref 0, .int p, .int t] I J (some (.int (-1))) (I) (J) := by
  have hh := c_X6_has l3 (I := I) (J := J) (p := p)
  rw [zhas_pin hP.FM, hp] at hh
  refine q_Ei me_X9_heir rfl (Nat.le_of_ble_eq_true rfl) ?_
  show q_w _ _ _ _ _ _ _ 0 [some (.ref 0), some (.int p), some (.int t)] [] I J
  refine w_aload_n dX9_heir_0 rfl ?_
  refine w_getR dX9_heir_1 f_X9_19 (by first | assumption | rfl) rfl rfl ?_
  refine w_iload_n dX9_heir_4 rfl ?_
  refine w_callVi dX9_heir_5 k_X9_112 (by first | assumption | rfl) rfl (hh) rfl rfl rfl (Nat.le_of_ble_eq_true rfl) (by first | decide | omega) ?_
  refine w_if_ne (tgt := 13) dX9_heir_8 (by decide) (fun c_8 => ?_) (fun c_8 => ?_)
  · exact absurd rfl c_8
  · refine w_iconst (v := (-1)) dX9_heir_11 (by decide) ?_
    exact w_ret dX9_heir_12 ⟨rfl, rfl, rfl⟩
set_option maxHeartbeats 4000000 in
set_option maxRecDepth 100000 in
theorem c_X9_heir_b {I : Mem} {J : Lng} {N m : Nat} (hP : PW (lnd I 3) N m) {p t : Int32} {j : Nat} (hp : pin p N = some j) (ht : pin t 4 = none) : q_E yX9_heir cX9_heir 3 (some .int) 32 [.ref 0, .int p, .int t] I J (some (.int (-2))) (I) (J) := by
  have hn7 := hP.2.1
  obtain ⟨hj, rfl⟩ := pin_some (by omega) hp
  have hm := p2_128 hn7 hP.2.2.2.1
  have hti := c_X9_isTie (I := I) (J := J) (t := t)
  rw [ht] at hti
  refine q_Ei me_X9_heir rfl (Nat.le_of_ble_eq_true rfl) ?_
  show q_w _ _ _ _ _ _ _ 0 [some (.ref 0), some (.int (nI j)), some (.int t)] [] I J
  refine w_aload_n dX9_heir_0 rfl ?_
  refine w_getR dX9_heir_1 f_X9_19 (by first | assumption | rfl) rfl rfl ?_
  refine w_iload_n dX9_heir_4 rfl ?_
  refine w_callVi dX9_heir_5 k_X9_112 (by first | assumption | rfl) rfl (cn_has l3 hP.FM hj) rfl rfl rfl (Nat.le_of_ble_eq_true rfl) (by first | decide | omega) ?_
  refine w_if_ne (tgt := 13) dX9_heir_8 (by decide) (fun c_8 => ?_) (fun c_8 => absurd c_8 (by decide))
  refine w_iload_n dX9_heir_13 rfl ?_
  refine w_callSi dX9_heir_14 k_X9_142 (hti) rfl rfl rfl (Nat.le_of_ble_eq_true rfl) (by first | decide | omega) ?_
  refine w_if_ne (tgt := 23) dX9_heir_17 (by decide) (fun c_17 => absurd c_17 (fun q => q rfl)) (fun c_17 => ?_)
  refine w_bipush (v := (-2)) dX9_heir_20 (by decide) ?_
  exact w_ret dX9_heir_22 ⟨rfl, rfl, rfl⟩
set_option maxHeartbeats 4000000 in
set_option maxRecDepth 100000 in
theorem c_X9_heir {I : Mem} {J : Lng} {N m : Nat} (hP : PW (lnd I 3) N m) {p t : Int32} {j k : Nat} (hp : pin p N = some j) (ht : pin t 4 = some k) : q_F yX9_heir cX9_heir 3 (some .int) 32 [.ref 0, .int p, .int t] I J (fun r I1 J1 => r = some (.int (oI (phr (lnd I 3) N t j m))) ∧ J1 = J ∧ Fr scr I I1) := by
  have hn7 := hP.2.1
  obtain ⟨hj, rfl⟩ := pin_some (by omega) hp
  have hm := p2_128 hn7 hP.2.2.2.1
  have hti := c_X9_isTie (I := I) (J := J) (t := t)
  rw [ht, Option.isSome_some, zB_t] at hti
  obtain ⟨ht0, ht1, ht2⟩ := SH_land l3
  obtain ⟨hq0, hq1⟩ := SH_kin k55
  have hli := c_X5_listHeirs (J := J) (tie := t) k55 l3 hP.FM hP.FP hj
  have hKI := fhe_KI (tie := t) hn7 hP.FP hj
  have hKR := KR.k (I := I) (q := 55) (l := (fhe I 3 N t j).1) (s := (fhe I 3 N t j).2) hn7 hKI
  have e4 : I 3 4 = nI m := hP.2.2.1
  have hfo := c_X5_firstOf (J := J) k55 hKR hm
  refine q_Fi me_X9_heir rfl (Nat.le_of_ble_eq_true rfl) ?_
  show q_w _ _ _ _ _ _ _ 0 [some (.ref 0), some (.int (nI j)), some (.int t)] [] I J
  refine w_aload_n dX9_heir_0 rfl ?_
  refine w_getR dX9_heir_1 f_X9_19 (by first | assumption | rfl) rfl rfl ?_
  refine w_iload_n dX9_heir_4 rfl ?_
  refine w_callVi dX9_heir_5 k_X9_112 (by first | assumption | rfl) rfl (cn_has l3 hP.FM hj) rfl rfl rfl (Nat.le_of_ble_eq_true rfl) (by first | decide | omega) ?_
  refine w_if_ne (tgt := 13) dX9_heir_8 (by decide) (fun c_8 => ?_) (fun c_8 => absurd c_8 (by decide))
  refine w_iload_n dX9_heir_13 rfl ?_
  refine w_callSi dX9_heir_14 k_X9_142 (hti) rfl rfl rfl (Nat.le_of_ble_eq_true rfl) (by first | decide | omega) ?_
  refine w_if_ne (tgt := 23) dX9_heir_17 (by decide) (fun c_17 => ?_) (fun c_17 => absurd c_17 (by decide))
  refine w_aload_n dX9_heir_23 rfl ?_
  refine w_getR dX9_heir_24 f_X9_44 (by first | assumption | rfl) rfl rfl ?_
  refine w_aload_n dX9_heir_27 rfl ?_
  refine w_getR dX9_heir_28 f_X9_19 (by first | assumption | rfl) rfl rfl ?_
  refine w_iload_n dX9_heir_31 rfl ?_
  refine w_iload_n dX9_heir_32 rfl ?_
  refine w_callVv dX9_heir_33 k_X9_156 (by first | assumption | rfl) rfl (hli) rfl rfl rfl (Nat.le_of_ble_eq_true rfl) (by first | decide | omega) ?_
  refine w_aload_n dX9_heir_36 rfl ?_
  refine w_getR dX9_heir_37 f_X9_44 (by first | assumption | rfl) rfl rfl ?_
  refine w_aload_n dX9_heir_40 rfl ?_
  refine w_getR dX9_heir_41 f_X9_19 (by first | assumption | rfl) rfl rfl ?_
  refine w_getI dX9_heir_44 f_X9_91 (by first | assumption | rfl) rfl ?_
  rw [kput_t l3 k55, e4]
  refine w_callVi dX9_heir_47 k_X9_160 (by first | assumption | rfl) rfl (hfo) rfl rfl rfl (Nat.le_of_ble_eq_true rfl) (by first | decide | omega) ?_
  exact w_ret dX9_heir_50 ⟨_, rfl, by rw [fhe_phe hn7 hP.FP hj]; rfl, rfl, scr_k⟩
set_option maxHeartbeats 4000000 in
set_option maxRecDepth 100000 in
theorem c_X9_line_u {I : Mem} {J : Lng} {N m : Nat} (hP : PW (lnd I 3) N m) {p o t : Int32} (hp : pin p N = none ∨ pin o N = none) : q_E yX9_line cX9_line 4 (some .int) 32 [.ref 0, .int p, .int o, .int t] I J (some (.int (-1))) (I) (J) := by
  have hh := c_X6_has l3 (I := I) (J := J) (p := p)
  have ho := c_X6_has l3 (I := I) (J := J) (p := o)
  rw [zhas_pin hP.FM] at hh ho
  refine q_Ei me_X9_line rfl (Nat.le_of_ble_eq_true rfl) ?_
  show q_w _ _ _ _ _ _ _ 0 [some (.ref 0), some (.int p), some (.int o), some (.int t)] [] I J
  refine w_aload_n dX9_line_0 rfl ?_
  refine w_getR dX9_line_1 f_X9_19 (by first | assumption | rfl) rfl rfl ?_
  refine w_iload_n dX9_line_4 rfl ?_
  refine w_callVi dX9_line_5 k_X9_112 (by first | assumption | rfl) rfl (hh) rfl rfl rfl (Nat.le_of_ble_eq_true rfl) (by first | decide | omega) ?_
  refine w_if_eq (tgt := 22) dX9_line_8 (by decide) (fun c_8 => ?_) (fun c_8 => ?_)
  · refine w_iconst (v := (-1)) dX9_line_22 (by decide) ?_
    exact w_ret dX9_line_23 ⟨rfl, rfl, rfl⟩
  · refine w_aload_n dX9_line_11 rfl ?_
    refine w_getR dX9_line_12 f_X9_19 (by first | assumption | rfl) rfl rfl ?_
    refine w_iload_n dX9_line_15 rfl ?_
    refine w_callVi dX9_line_16 k_X9_112 (by first | assumption | rfl) rfl (ho) rfl rfl rfl (Nat.le_of_ble_eq_true rfl) (by first | decide | omega) ?_
    refine w_if_ne (tgt := 24) dX9_line_19 (by decide) (fun c_19 => ?_) (fun c_19 => ?_)
    · exfalso
      rcases hp with hp | hp
      · exact c_8 (by rw [hp]; rfl)
      · exact c_19 (by rw [hp]; rfl)
    · refine w_iconst (v := (-1)) dX9_line_22 (by decide) ?_
      exact w_ret dX9_line_23 ⟨rfl, rfl, rfl⟩
set_option maxHeartbeats 4000000 in
set_option maxRecDepth 100000 in
theorem c_X9_line_b {I : Mem} {J : Lng} {N m : Nat} (hP : PW (lnd I 3) N m) {p o t : Int32} {j x : Nat} (hp : pin p N = some j) (ho : pin o N = some x) (ht : pin t 4 = none) : q_E yX9_line cX9_line 4 (some .int) 32 [.ref 0, .int p, .int o, .int t] I J (some (.int (-2))) (I) (J) := by
  have hn7 := hP.2.1
  obtain ⟨hj, rfl⟩ := pin_some (by omega) hp
  obtain ⟨hx, rfl⟩ := pin_some (by omega) ho
  have hti := c_X9_isTie (I := I) (J := J) (t := t)
  rw [ht] at hti
  refine q_Ei me_X9_line rfl (Nat.le_of_ble_eq_true rfl) ?_
  show q_w _ _ _ _ _ _ _ 0 [some (.ref 0), some (.int (nI j)), some (.int (nI x)), some (.int t)] [] I J
  refine w_aload_n dX9_line_0 rfl ?_
  refine w_getR dX9_line_1 f_X9_19 (by first | assumption | rfl) rfl rfl ?_
  refine w_iload_n dX9_line_4 rfl ?_
  refine w_callVi dX9_line_5 k_X9_112 (by first | assumption | rfl) rfl (cn_has l3 hP.FM hj) rfl rfl rfl (Nat.le_of_ble_eq_true rfl) (by first | decide | omega) ?_
  refine w_if_eq (tgt := 22) dX9_line_8 (by decide) (fun c_8 => absurd c_8 (by decide)) (fun c_8 => ?_)
  refine w_aload_n dX9_line_11 rfl ?_
  refine w_getR dX9_line_12 f_X9_19 (by first | assumption | rfl) rfl rfl ?_
  refine w_iload_n dX9_line_15 rfl ?_
  refine w_callVi dX9_line_16 k_X9_112 (by first | assumption | rfl) rfl (cn_has l3 hP.FM hx) rfl rfl rfl (Nat.le_of_ble_eq_true rfl) (by first | decide | omega) ?_
  refine w_if_ne (tgt := 24) dX9_line_19 (by decide) (fun c_19 => ?_) (fun c_19 => absurd c_19 (by decide))
  refine w_iload_n dX9_line_24 rfl ?_
  refine w_callSi dX9_line_25 k_X9_142 (hti) rfl rfl rfl (Nat.le_of_ble_eq_true rfl) (by first | decide | omega) ?_
  refine w_if_ne (tgt := 34) dX9_line_28 (by decide) (fun c_28 => absurd c_28 (fun q => q rfl)) (fun c_28 => ?_)
  refine w_bipush (v := (-2)) dX9_line_31 (by decide) ?_
  exact w_ret dX9_line_33 ⟨rfl, rfl, rfl⟩
set_option maxHeartbeats 4000000 in
set_option maxRecDepth 100000 in
theorem c_X9_line {I : Mem} {J : Lng} {N m : Nat} (hP : PW (lnd I 3) N m) {p o t : Int32} {j x k : Nat} (hp : pin p N = some j) (ho : pin o N = some x) (ht : pin t 4 = some k) : q_F yX9_line cX9_line 4 (some .int) 32 [.ref 0, .int p, .int o, .int t] I J (fun r I1 J1 => r = some (.int (oI (fidx x (pln (lnd I 3) N t j) 0))) ∧ J1 = J ∧ Fr scr I I1) := by
  have hn7 := hP.2.1
  obtain ⟨hj, rfl⟩ := pin_some (by omega) hp
  obtain ⟨hx, rfl⟩ := pin_some (by omega) ho
  have hti := c_X9_isTie (I := I) (J := J) (t := t)
  rw [ht, Option.isSome_some, zB_t] at hti
  have hli := c_X5_listLine (J := J) (tie := t) k55 l3 hP.FM (hP.FP.v hn7) hj
  have hKI : KI N (fd I 3 N t 7 ([], 0) j) := fdl_KI hn7 (fun p => kI_lt hn7) (kI_c (hP.FP.v hn7) hn7) 7 _ j hj KI.nil0
  have hKR := KR.k (I := I) (q := 55) (l := (fd I 3 N t 7 ([], 0) j).1) (s := (fd I 3 N t 7 ([], 0) j).2) hn7 hKI
  have hpo := c_X5_placeOf (J := J) k55 hKR (show x < 7 by omega)
  refine q_Fi me_X9_line rfl (Nat.le_of_ble_eq_true rfl) ?_
  show q_w _ _ _ _ _ _ _ 0 [some (.ref 0), some (.int (nI j)), some (.int (nI x)), some (.int t)] [] I J
  refine w_aload_n dX9_line_0 rfl ?_
  refine w_getR dX9_line_1 f_X9_19 (by first | assumption | rfl) rfl rfl ?_
  refine w_iload_n dX9_line_4 rfl ?_
  refine w_callVi dX9_line_5 k_X9_112 (by first | assumption | rfl) rfl (cn_has l3 hP.FM hj) rfl rfl rfl (Nat.le_of_ble_eq_true rfl) (by first | decide | omega) ?_
  refine w_if_eq (tgt := 22) dX9_line_8 (by decide) (fun c_8 => absurd c_8 (by decide)) (fun c_8 => ?_)
  refine w_aload_n dX9_line_11 rfl ?_
  refine w_getR dX9_line_12 f_X9_19 (by first | assumption | rfl) rfl rfl ?_
  refine w_iload_n dX9_line_15 rfl ?_
  refine w_callVi dX9_line_16 k_X9_112 (by first | assumption | rfl) rfl (cn_has l3 hP.FM hx) rfl rfl rfl (Nat.le_of_ble_eq_true rfl) (by first | decide | omega) ?_
  refine w_if_ne (tgt := 24) dX9_line_19 (by decide) (fun c_19 => ?_) (fun c_19 => absurd c_19 (by decide))
  refine w_iload_n dX9_line_24 rfl ?_
  refine w_callSi dX9_line_25 k_X9_142 (hti) rfl rfl rfl (Nat.le_of_ble_eq_true rfl) (by first | decide | omega) ?_
  refine w_if_ne (tgt := 34) dX9_line_28 (by decide) (fun c_28 => ?_) (fun c_28 => absurd c_28 (by decide))
  refine w_aload_n dX9_line_34 rfl ?_
  refine w_getR dX9_line_35 f_X9_44 (by first | assumption | rfl) rfl rfl ?_
  refine w_aload_n dX9_line_38 rfl ?_
  refine w_getR dX9_line_39 f_X9_19 (by first | assumption | rfl) rfl rfl ?_
  refine w_iload_n dX9_line_42 rfl ?_
  refine w_iload_n dX9_line_43 rfl ?_
  refine w_callVv dX9_line_44 k_X9_163 (by first | assumption | rfl) rfl (hli) rfl rfl rfl (Nat.le_of_ble_eq_true rfl) (by first | decide | omega) ?_
  refine w_aload_n dX9_line_47 rfl ?_
  refine w_getR dX9_line_48 f_X9_44 (by first | assumption | rfl) rfl rfl ?_
  refine w_iload_n dX9_line_51 rfl ?_
  refine w_callVi dX9_line_52 k_X9_166 (by first | assumption | rfl) rfl (hpo) rfl rfl rfl (Nat.le_of_ble_eq_true rfl) (by first | decide | omega) ?_
  exact w_ret dX9_line_55 ⟨_, rfl, by rw [fdl_pln hn7 hj], rfl, scr_k⟩
set_option maxHeartbeats 4000000 in
set_option maxRecDepth 100000 in
theorem c_X9_ever_b {I : Mem} {J : Lng} {t : Int32} (ht : pin t 4 = none) : q_E yX9_ever cX9_ever 2 (some .int) 32 [.ref 0, .int t] I J (some (.int (-2))) (I) (J) := by
  have hti := c_X9_isTie (I := I) (J := J) (t := t)
  rw [ht] at hti
  refine q_Ei me_X9_ever rfl (Nat.le_of_ble_eq_true rfl) ?_
  show q_w _ _ _ _ _ _ _ 0 [some (.ref 0), some (.int t)] [] I J
  refine w_iload_n dX9_ever_0 rfl ?_
  refine w_callSi dX9_ever_1 k_X9_142 (hti) rfl rfl rfl (Nat.le_of_ble_eq_true rfl) (by first | decide | omega) ?_
  refine w_if_ne (tgt := 10) dX9_ever_4 (by decide) (fun c_4 => absurd c_4 (fun q => q rfl)) (fun c_4 => ?_)
  refine w_bipush (v := (-2)) dX9_ever_7 (by decide) ?_
  exact w_ret dX9_ever_9 ⟨rfl, rfl, rfl⟩
set_option maxHeartbeats 4000000 in
set_option maxRecDepth 100000 in
theorem c_X9_ever_0 {I : Mem} {J : Lng} {t : Int32} {k : Nat} (ht : pin t 4 = some k) (hh : lnd I 3 1 = -9) : q_E yX9_ever cX9_ever 2 (some .int) 32 [.ref 0, .int t] I J (some (.int (0))) (I) (J) := by
  have hti := c_X9_isTie (I := I) (J := J) (t := t)
  rw [ht, Option.isSome_some, zB_t] at hti
  refine q_Ei me_X9_ever rfl (Nat.le_of_ble_eq_true rfl) ?_
  show q_w _ _ _ _ _ _ _ 0 [some (.ref 0), some (.int t)] [] I J
  refine w_iload_n dX9_ever_0 rfl ?_
  refine w_callSi dX9_ever_1 k_X9_142 (hti) rfl rfl rfl (Nat.le_of_ble_eq_true rfl) (by first | decide | omega) ?_
  refine w_if_ne (tgt := 10) dX9_ever_4 (by decide) (fun c_4 => ?_) (fun c_4 => absurd c_4 (by decide))
  refine w_aload_n dX9_ever_10 rfl ?_
  refine w_getR dX9_ever_11 f_X9_19 (by first | assumption | rfl) rfl rfl ?_
  refine w_getI dX9_ever_14 f_X9_94 (by first | assumption | rfl) rfl ?_
  refine w_bipush (v := (-9)) dX9_ever_17 (by decide) ?_
  refine w_icmp_ne (tgt := 24) dX9_ever_19 (by decide) (fun c_19 => absurd c_19 (fun q => q hh)) (fun c_19 => ?_)
  refine w_iconst (v := 0) dX9_ever_22 (by decide) ?_
  exact w_ret dX9_ever_23 ⟨rfl, rfl, rfl⟩
set_option maxHeartbeats 4000000 in
set_option maxRecDepth 100000 in
theorem c_X9_ever {I : Mem} {J : Lng} {N m : Nat} (hP : PW (lnd I 3) N m) {t : Int32} {k j : Nat} (ht : pin t 4 = some k) (hj : j < N) (hh : lnd I 3 1 = nI j) : q_F yX9_ever cX9_ever 2 (some .int) 32 [.ref 0, .int t] I J (fun r I1 J1 => r = some (.int (nI (2 ^ j ||| ((phe (lnd I 3) N t j).1.foldl mset 0 &&& m)))) ∧ J1 = J ∧ Fr scr I I1) := by
  have hti := c_X9_isTie (I := I) (J := J) (t := t)
  rw [ht, Option.isSome_some, zB_t] at hti
  have hn7 := hP.2.1
  have e5 : I 3 5 = nI j := hh
  obtain ⟨ht0, ht1, ht2⟩ := SH_land l3
  obtain ⟨hq0, hq1⟩ := SH_kin k55
  have hli := c_X5_listHeirs (J := J) (tie := t) k55 l3 hP.FM hP.FP hj
  have hKI := fhe_KI (tie := t) hn7 hP.FP hj
  have hKR := KR.k (I := I) (q := 55) (l := (fhe I 3 N t j).1) (s := (fhe I 3 N t j).2) hn7 hKI
  have e4 : I 3 4 = nI m := hP.2.2.1
  have hal := c_X5_allOf (J := J) (m := m) k55 hKR
  refine q_Fi me_X9_ever rfl (Nat.le_of_ble_eq_true rfl) ?_
  show q_w _ _ _ _ _ _ _ 0 [some (.ref 0), some (.int t)] [] I J
  refine w_iload_n dX9_ever_0 rfl ?_
  refine w_callSi dX9_ever_1 k_X9_142 (hti) rfl rfl rfl (Nat.le_of_ble_eq_true rfl) (by first | decide | omega) ?_
  refine w_if_ne (tgt := 10) dX9_ever_4 (by decide) (fun c_4 => ?_) (fun c_4 => absurd c_4 (by decide))
  refine w_aload_n dX9_ever_10 rfl ?_
  refine w_getR dX9_ever_11 f_X9_19 (by first | assumption | rfl) rfl rfl ?_
  refine w_getI dX9_ever_14 f_X9_94 (by first | assumption | rfl) rfl ?_
  refine w_bipush (v := (-9)) dX9_ever_17 (by decide) ?_
  refine w_icmp_ne (tgt := 24) dX9_ever_19 (by decide) (fun c_19 => ?_) (fun c_19 => absurd c_19 (by rw [e5]; exact nI_ne9 (by omega)))
  refine w_aload_n dX9_ever_24 rfl ?_
  refine w_getR dX9_ever_25 f_X9_44 (by first | assumption | rfl) rfl rfl ?_
  refine w_aload_n dX9_ever_28 rfl ?_
  refine w_getR dX9_ever_29 f_X9_19 (by first | assumption | rfl) rfl rfl ?_
  refine w_aload_n dX9_ever_32 rfl ?_
  refine w_getR dX9_ever_33 f_X9_19 (by first | assumption | rfl) rfl rfl ?_
  refine w_getI dX9_ever_36 f_X9_94 (by first | assumption | rfl) rfl ?_
  rw [e5]
  refine w_iload_n dX9_ever_39 rfl ?_
  refine w_callVv dX9_ever_40 k_X9_156 (by first | assumption | rfl) rfl (hli) rfl rfl rfl (Nat.le_of_ble_eq_true rfl) (by first | decide | omega) ?_
  refine w_iconst (v := 1) dX9_ever_43 (by decide) ?_
  refine w_aload_n dX9_ever_44 rfl ?_
  refine w_getR dX9_ever_45 f_X9_19 (by first | assumption | rfl) rfl rfl ?_
  refine w_getI dX9_ever_48 f_X9_94 (by first | assumption | rfl) rfl ?_
  rw [kput_t l3 k55, e5]
  refine w_ishl dX9_ever_51 ?_
  refine w_aload_n dX9_ever_52 rfl ?_
  refine w_getR dX9_ever_53 f_X9_44 (by first | assumption | rfl) rfl rfl ?_
  refine w_aload_n dX9_ever_56 rfl ?_
  refine w_getR dX9_ever_57 f_X9_19 (by first | assumption | rfl) rfl rfl ?_
  refine w_getI dX9_ever_60 f_X9_91 (by first | assumption | rfl) rfl ?_
  rw [kput_t l3 k55, e4]
  refine w_callVi dX9_ever_63 k_X9_172 (by first | assumption | rfl) rfl (hal) rfl rfl rfl (Nat.le_of_ble_eq_true rfl) (by first | decide | omega) ?_
  refine w_ior dX9_ever_66 ?_
  exact w_ret dX9_ever_67 ⟨_, rfl, by rw [mI_shl j (by omega), fa_or, fhe_phe hn7 hP.FP hj], rfl, scr_k⟩
set_option maxHeartbeats 4000000 in
set_option maxRecDepth 100000 in
theorem c_X9_best_b {I : Mem} {J : Lng} {x : Int32} {own row : Bool} (hx : pin1 x 4 = none) : q_E yX9_best cX9_best 4 (some .int) 5 [.ref 0, .int x, .int (zB own), .int (zB row)] I J (some (.int (-2))) (I) (J) := by
  refine q_Ei me_X9_best rfl (Nat.le_of_ble_eq_true rfl) ?_
  show q_w _ _ _ _ _ _ _ 0 [some (.ref 0), some (.int x), some (.int (zB own)), some (.int (zB row))] [] I J
  refine w_iload_n dX9_best_0 rfl ?_
  refine w_iconst (v := 1) dX9_best_1 (by decide) ?_
  refine w_icmp_lt (tgt := 10) dX9_best_2 (by decide) (fun c_2 => ?_) (fun c_2 => ?_)
  · refine w_bipush (v := (-2)) dX9_best_10 (by decide) ?_
    exact w_ret dX9_best_12 ⟨rfl, rfl, rfl⟩
  · refine w_iload_n dX9_best_5 rfl ?_
    refine w_iconst (v := 4) dX9_best_6 (by decide) ?_
    refine w_icmp_le (tgt := 13) dX9_best_7 (by decide) (fun c_7 => absurd c_7 (p1_le hx c_2 (by decide))) (fun c_7 => ?_)
    refine w_bipush (v := (-2)) dX9_best_10 (by decide) ?_
    exact w_ret dX9_best_12 ⟨rfl, rfl, rfl⟩
set_option maxHeartbeats 4000000 in
set_option maxRecDepth 100000 in
theorem c_X9_best_l {I : Mem} {J : Lng} {x : Int32} {own row : Bool} {k : Nat} (hx : pin1 x 4 = some k) (hh : lnd I 3 1 = -9) : q_E yX9_best cX9_best 4 (some .int) 5 [.ref 0, .int x, .int (zB own), .int (zB row)] I J (some (.int (-3))) (I) (J) := by
  obtain ⟨h1, h2, rfl⟩ := pin1_some (by decide) hx
  refine q_Ei me_X9_best rfl (Nat.le_of_ble_eq_true rfl) ?_
  show q_w _ _ _ _ _ _ _ 0 [some (.ref 0), some (.int (nI k)), some (.int (zB own)), some (.int (zB row))] [] I J
  refine w_iload_n dX9_best_0 rfl ?_
  refine w_iconst (v := 1) dX9_best_1 (by decide) ?_
  refine w_icmp_lt (tgt := 10) dX9_best_2 (by decide) (fun c_2 => absurd c_2 (nI_1le h1 (by omega))) (fun c_2 => ?_)
  refine w_iload_n dX9_best_5 rfl ?_
  refine w_iconst (v := 4) dX9_best_6 (by decide) ?_
  refine w_icmp_le (tgt := 13) dX9_best_7 (by decide) (fun c_7 => ?_) (fun c_7 => absurd (nI_le (b := 4) h2 (by decide)) c_7)
  refine w_aload_n dX9_best_13 rfl ?_
  refine w_getR dX9_best_14 f_X9_19 (by first | assumption | rfl) rfl rfl ?_
  refine w_getI dX9_best_17 f_X9_94 (by first | assumption | rfl) rfl ?_
  refine w_bipush (v := (-9)) dX9_best_20 (by decide) ?_
  refine w_icmp_ne (tgt := 28) dX9_best_22 (by decide) (fun c_22 => absurd c_22 (fun q => q hh)) (fun c_22 => ?_)
  refine w_bipush (v := (-3)) dX9_best_25 (by decide) ?_
  exact w_ret dX9_best_27 ⟨rfl, rfl, rfl⟩
set_option maxHeartbeats 4000000 in
set_option maxRecDepth 100000 in
theorem c_X9_best {I : Mem} {J : Lng} {x : Int32} {own row : Bool} {k t : Nat} (hx : pin1 x 4 = some k) (hh : ¬ lnd I 3 1 = -9) (ht : t < 10) (h3 : lnd I 3 3 = nI t) : q_F yX9_best cX9_best 4 (some .int) 5 [.ref 0, .int x, .int (zB own), .int (zB row)] I J (fun r I1 J1 => r = some (.int (nI (cond row (brow own k 1 t) (bm own k t)))) ∧ J1 = J ∧ Fr scr I I1) := by
  obtain ⟨h1, h2, rfl⟩ := pin1_some (by decide) hx
  have e7 : I 3 7 = nI t := h3
  refine q_Fi me_X9_best rfl (Nat.le_of_ble_eq_true rfl) ?_
  show q_w _ _ _ _ _ _ _ 0 [some (.ref 0), some (.int (nI k)), some (.int (zB own)), some (.int (zB row))] [] I J
  refine w_iload_n dX9_best_0 rfl ?_
  refine w_iconst (v := 1) dX9_best_1 (by decide) ?_
  refine w_icmp_lt (tgt := 10) dX9_best_2 (by decide) (fun c_2 => absurd c_2 (nI_1le h1 (by omega))) (fun c_2 => ?_)
  refine w_iload_n dX9_best_5 rfl ?_
  refine w_iconst (v := 4) dX9_best_6 (by decide) ?_
  refine w_icmp_le (tgt := 13) dX9_best_7 (by decide) (fun c_7 => ?_) (fun c_7 => absurd (nI_le (b := 4) h2 (by decide)) c_7)
  refine w_aload_n dX9_best_13 rfl ?_
  refine w_getR dX9_best_14 f_X9_19 (by first | assumption | rfl) rfl rfl ?_
  refine w_getI dX9_best_17 f_X9_94 (by first | assumption | rfl) rfl ?_
  refine w_bipush (v := (-9)) dX9_best_20 (by decide) ?_
  refine w_icmp_ne (tgt := 28) dX9_best_22 (by decide) (fun c_22 => ?_) (fun c_22 => absurd c_22 hh)
  refine w_aload_n dX9_best_28 rfl ?_
  refine w_getR dX9_best_29 f_X9_51 (by first | assumption | rfl) rfl rfl ?_
  refine w_iload_n dX9_best_32 rfl ?_
  refine w_iload_n dX9_best_33 rfl ?_
  refine w_callVF dX9_best_34 k_X9_175 (by first | assumption | rfl) rfl (c_X3_reckon (show k < 5 by omega)) rfl rfl rfl (Nat.le_of_ble_eq_true rfl) (by first | decide | omega) (fun r_34 I_34 J_34 h_34 => ?_)
  obtain ⟨rfl, rfl, hTB, hFO⟩ := h_34
  have e7b : I_34 3 7 = nI t := by rw [hFO 3 (Or.inl (by decide))]; exact e7
  have hmo := c_X3_mostFor (I := I_34) (J := J_34) (l := k) (t := t) (by omega) ht
  rw [hTB k (by omega) t (by omega)] at hmo
  refine w_iload_n dX9_best_37 rfl ?_
  refine w_if_eq (tgt := 59) dX9_best_38 (by decide) (fun c_38 => ?_) (fun c_38 => ?_)
  · refine w_aload_n dX9_best_59 rfl ?_
    refine w_getR dX9_best_60 f_X9_51 (by first | assumption | rfl) rfl rfl ?_
    refine w_iload_n dX9_best_63 rfl ?_
    refine w_aload_n dX9_best_64 rfl ?_
    refine w_getR dX9_best_65 f_X9_19 (by first | assumption | rfl) rfl rfl ?_
    refine w_getI dX9_best_68 f_X9_100 (by first | assumption | rfl) rfl ?_
    rw [e7b]
    refine w_callVi dX9_best_71 k_X9_183 (by first | assumption | rfl) rfl (hmo) rfl rfl rfl (Nat.le_of_ble_eq_true rfl) (by first | decide | omega) ?_
    have hr : row = false := zB_eq0.mp c_38
    exact w_ret dX9_best_74 ⟨_, rfl, by rw [hr]; rfl, rfl, scr_FO hFO⟩
  · refine w_aload_n dX9_best_41 rfl ?_
    refine w_getR dX9_best_42 f_X9_51 (by first | assumption | rfl) rfl rfl ?_
    refine w_iload_n dX9_best_45 rfl ?_
    refine w_aload_n dX9_best_46 rfl ?_
    refine w_getR dX9_best_47 f_X9_19 (by first | assumption | rfl) rfl rfl ?_
    refine w_getI dX9_best_50 f_X9_100 (by first | assumption | rfl) rfl ?_
    rw [e7b]
    refine w_callVi dX9_best_53 k_X9_179 (by first | assumption | rfl) rfl (c_X3_firstRow hTB (by omega) ht) rfl rfl rfl (Nat.le_of_ble_eq_true rfl) (by first | decide | omega) ?_
    refine w_goto (tgt := 74) dX9_best_56 (by decide) ?_
    have hr : row = true := by simpa [zB_eq0] using c_38
    exact w_ret dX9_best_74 ⟨_, rfl, by rw [hr]; rfl, rfl, scr_FO hFO⟩
set_option maxHeartbeats 4000000 in
set_option maxRecDepth 100000 in
theorem c_X9_rests_b {I : Mem} {J : Lng} {w x : Int32} (hb : pin w 10 = none ∨ pin x 2 = none) : q_E yX9_rests cX9_rests 3 (some .int) 33 [.ref 0, .int w, .int x] I J (some (.int (-2))) (I) (J) := by
  refine q_Ei me_X9_rests rfl (Nat.le_of_ble_eq_true rfl) ?_
  show q_w _ _ _ _ _ _ _ 0 [some (.ref 0), some (.int w), some (.int x)] [] I J
  refine w_iload_n dX9_rests_0 rfl ?_
  refine w_if_lt (tgt := 19) dX9_rests_1 (by decide) (fun c_1 => ?_) (fun c_1 => ?_)
  · refine w_bipush (v := (-2)) dX9_rests_19 (by decide) ?_
    exact w_ret dX9_rests_21 ⟨rfl, rfl, rfl⟩
  · refine w_iload_n dX9_rests_4 rfl ?_
    refine w_bipush (v := 9) dX9_rests_5 (by decide) ?_
    refine w_icmp_gt (tgt := 19) dX9_rests_7 (by decide) (fun c_7 => ?_) (fun c_7 => ?_)
    · refine w_bipush (v := (-2)) dX9_rests_19 (by decide) ?_
      exact w_ret dX9_rests_21 ⟨rfl, rfl, rfl⟩
    · refine w_iload_n dX9_rests_10 rfl ?_
      refine w_if_lt (tgt := 19) dX9_rests_11 (by decide) (fun c_11 => ?_) (fun c_11 => ?_)
      · refine w_bipush (v := (-2)) dX9_rests_19 (by decide) ?_
        exact w_ret dX9_rests_21 ⟨rfl, rfl, rfl⟩
      · refine w_iload_n dX9_rests_14 rfl ?_
        refine w_iconst (v := 1) dX9_rests_15 (by decide) ?_
        refine w_icmp_le (tgt := 22) dX9_rests_16 (by decide) (fun c_16 => ?_) (fun c_16 => ?_)
        · exfalso
          rcases hb with hb | hb
          · exact pn_le hb c_1 (K := 9) (by decide) (Int32.not_lt.mp c_7)
          · exact pn_le hb c_11 (K := 1) (by decide) c_16
        · refine w_bipush (v := (-2)) dX9_rests_19 (by decide) ?_
          exact w_ret dX9_rests_21 ⟨rfl, rfl, rfl⟩
set_option maxHeartbeats 4000000 in
set_option maxRecDepth 100000 in
theorem c_X9_rests_l {I : Mem} {J : Lng} {N m : Nat} (hP : PW (lnd I 3) N m) {w x : Int32} {u y : Nat} (hw : pin w 10 = some u) (hx : pin x 2 = some y) (hc : pchild (lnd I 3) N m = false) : q_F yX9_rests cX9_rests 3 (some .int) 33 [.ref 0, .int w, .int x] I J (fun r I1 J1 => r = some (.int (-3)) ∧ J1 = J ∧ Fr scr I I1) := by
  obtain ⟨hw10, rfl⟩ := pin_some (by decide) hw
  obtain ⟨hx2, rfl⟩ := pin_some (by decide) hx
  refine q_Fi me_X9_rests rfl (Nat.le_of_ble_eq_true rfl) ?_
  show q_w _ _ _ _ _ _ _ 0 [some (.ref 0), some (.int (nI u)), some (.int (nI y))] [] I J
  refine w_iload_n dX9_rests_0 rfl ?_
  refine w_if_lt (tgt := 19) dX9_rests_1 (by decide) (fun c_1 => absurd c_1 (nI_pos (by omega))) (fun c_1 => ?_)
  refine w_iload_n dX9_rests_4 rfl ?_
  refine w_bipush (v := 9) dX9_rests_5 (by decide) ?_
  refine w_icmp_gt (tgt := 19) dX9_rests_7 (by decide) (fun c_7 => absurd c_7 (nI_nlt (a := 9) (b := u) (by omega) (by decide))) (fun c_7 => ?_)
  refine w_iload_n dX9_rests_10 rfl ?_
  refine w_if_lt (tgt := 19) dX9_rests_11 (by decide) (fun c_11 => absurd c_11 (nI_pos (by omega))) (fun c_11 => ?_)
  refine w_iload_n dX9_rests_14 rfl ?_
  refine w_iconst (v := 1) dX9_rests_15 (by decide) ?_
  refine w_icmp_le (tgt := 22) dX9_rests_16 (by decide) (fun c_16 => ?_) (fun c_16 => absurd (nI_le (b := 1) (by omega) (by decide)) c_16)
  refine w_aload_n dX9_rests_22 rfl ?_
  refine w_callVF dX9_rests_23 k_X9_145 (by first | assumption | rfl) rfl (c_X9_hasChild hP) rfl rfl rfl (Nat.le_of_ble_eq_true rfl) (by first | decide | omega) (fun r_23 I_23 J_23 h_23 => ?_)
  obtain ⟨rfl, rfl, hfr⟩ := h_23
  refine w_if_ne (tgt := 32) dX9_rests_26 (by decide) (fun c_26 => absurd c_26 (by rw [hc]; exact fun q => q rfl)) (fun c_26 => ?_)
  refine w_bipush (v := (-3)) dX9_rests_29 (by decide) ?_
  exact w_ret dX9_rests_31 ⟨_, rfl, rfl, rfl, hfr⟩
set_option maxHeartbeats 4000000 in
set_option maxRecDepth 100000 in
theorem c_X9_rests {I : Mem} {J : Lng} {N m : Nat} (hP : PW (lnd I 3) N m) {w x : Int32} {u y : Nat} (hw : pin w 10 = some u) (hx : pin x 2 = some y) (hc : pchild (lnd I 3) N m = true) : q_F yX9_rests cX9_rests 3 (some .int) 33 [.ref 0, .int w, .int x] I J (fun r I1 J1 => r = some (.int (if y = 0 then zca (nI u) 5 0 0 else zfa (nI u) 5 0)) ∧ J1 = J ∧ Fr scr I I1) := by
  obtain ⟨hw10, rfl⟩ := pin_some (by decide) hw
  obtain ⟨hx2, rfl⟩ := pin_some (by decide) hx
  refine q_Fi me_X9_rests rfl (Nat.le_of_ble_eq_true rfl) ?_
  show q_w _ _ _ _ _ _ _ 0 [some (.ref 0), some (.int (nI u)), some (.int (nI y))] [] I J
  refine w_iload_n dX9_rests_0 rfl ?_
  refine w_if_lt (tgt := 19) dX9_rests_1 (by decide) (fun c_1 => absurd c_1 (nI_pos (by omega))) (fun c_1 => ?_)
  refine w_iload_n dX9_rests_4 rfl ?_
  refine w_bipush (v := 9) dX9_rests_5 (by decide) ?_
  refine w_icmp_gt (tgt := 19) dX9_rests_7 (by decide) (fun c_7 => absurd c_7 (nI_nlt (a := 9) (b := u) (by omega) (by decide))) (fun c_7 => ?_)
  refine w_iload_n dX9_rests_10 rfl ?_
  refine w_if_lt (tgt := 19) dX9_rests_11 (by decide) (fun c_11 => absurd c_11 (nI_pos (by omega))) (fun c_11 => ?_)
  refine w_iload_n dX9_rests_14 rfl ?_
  refine w_iconst (v := 1) dX9_rests_15 (by decide) ?_
  refine w_icmp_le (tgt := 22) dX9_rests_16 (by decide) (fun c_16 => ?_) (fun c_16 => absurd (nI_le (b := 1) (by omega) (by decide)) c_16)
  refine w_aload_n dX9_rests_22 rfl ?_
  refine w_callVF dX9_rests_23 k_X9_145 (by first | assumption | rfl) rfl (c_X9_hasChild hP) rfl rfl rfl (Nat.le_of_ble_eq_true rfl) (by first | decide | omega) (fun r_23 I_23 J_23 h_23 => ?_)
  obtain ⟨rfl, rfl, hfr⟩ := h_23
  refine w_if_ne (tgt := 32) dX9_rests_26 (by decide) (fun c_26 => ?_) (fun c_26 => absurd c_26 (by rw [hc]; decide))
  refine w_iload_n dX9_rests_32 rfl ?_
  refine w_if_ne (tgt := 43) dX9_rests_33 (by decide) (fun c_33 => ?_) (fun c_33 => ?_)
  · refine w_iload_n dX9_rests_43 rfl ?_
    refine w_callSi dX9_rests_44 k_X9_199 (c_X1_firstRest) rfl rfl rfl (Nat.le_of_ble_eq_true rfl) (by first | decide | omega) ?_
    have hy : ¬ y = 0 := fun e => c_33 (by rw [e]; rfl)
    exact w_ret dX9_rests_47 ⟨_, rfl, by rw [if_neg hy], rfl, hfr⟩
  · refine w_iload_n dX9_rests_36 rfl ?_
    refine w_callSi dX9_rests_37 k_X9_194 (c_X1_countRests) rfl rfl rfl (Nat.le_of_ble_eq_true rfl) (by first | decide | omega) ?_
    refine w_goto (tgt := 47) dX9_rests_40 (by decide) ?_
    have hy : y = 0 := nI_inj (by omega) (by decide) c_33
    exact w_ret dX9_rests_47 ⟨_, rfl, by rw [if_pos hy], rfl, hfr⟩
set_option maxHeartbeats 4000000 in
set_option maxRecDepth 100000 in
theorem c_X9_seed {I : Mem} {J : Lng} {v : Int64} : q_E yX9_seed cX9_seed 5 (some .long) 0 [.ref 0, .long v] I J (some (.long (J 0))) (I) (upJ J 0 v) := by
  refine q_El me_X9_seed rfl (Nat.le_of_ble_eq_true rfl) ?_
  show q_w _ _ _ _ _ _ _ 0 [some (.ref 0), some (.long v), none, none, none] [] I J
  refine w_aload_n dX9_seed_0 rfl ?_
  refine w_getJ dX9_seed_1 f_X9_225 (by first | assumption | rfl) rfl ?_
  refine w_lstore_n dX9_seed_4 (by decide) rfl ?_
  refine w_aload_n dX9_seed_5 rfl ?_
  refine w_lload_n dX9_seed_6 rfl ?_
  refine w_putJ dX9_seed_7 f_X9_225 (by first | assumption | rfl) rfl ?_
  refine w_lload_n dX9_seed_10 rfl ?_
  exact w_ret dX9_seed_11 ⟨rfl, rfl, rfl⟩
