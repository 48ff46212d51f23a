theorem kn_l : ∀ d, d < 7 → 69 + 2 * d ∈ q_kins := by decide
theorem kn_r : ∀ d, d < 7 → ([some 69, some 71, some 73, some 75, some 77, some 79, some 81] : List (Option Nat)).getD d none = some (69 + 2 * d) := by decide
theorem KR.mem {I : Mem} {q : Nat} {l : List Nat} (h : KR I q l) {x : Nat} (hx : x ∈ l) : x < 7 := by
  obtain ⟨i, hi, e⟩ := List.getElem_of_mem hx
  have := (h.2.2 i hi).2
  rw [show l.getD i 0 = l[i] by simp [List.getD, hi], e] at this
  exact this
theorem KR.up {I : Mem} {q : Nat} {l : List Nat} {R : Nat → Int32} (h : KR I q l) (h1 : q ≠ 68) (h2 : q + 1 ≠ 68) : KR (upR I 68 R) q l := by
  unfold KR; rw [upR_ne h1, upR_ne h2]; exact h
/-- the ways that go on from a set with a holder -/
def ogo (hl : Nat → List Nat) (S h p : Nat) (v : Int32) : Nat → Nat → (Nat → Int32) → (Nat → Int32)
  | 0, _, R => R
  | r + 1, d, R => ogo hl S h p v r (d + 1) (if S.testBit d && !(d == p) then oadd R (mclr S d) (if d = h then (hl d).find? (fun x => (mclr S d).testBit x) else some h) v else R)
set_option maxHeartbeats 4000000 in
set_option maxRecDepth 100000 in
theorem l_X7_goOn {I : Mem} {J : Lng} {hl : Nat → List Nat} (hK : ∀ d, d < 7 → KR I (69 + 2 * d) (hl d)) {S h p : Nat} {v : Int32} (hS : S < 128) (hh : h < 7) (hp : p < 7) {Z : Nat → Int32} : ∀ (r d : Nat) (R : Nat → Int32) (x6 : Option Value), 7 - d = r → d ≤ 7 → ogo hl S h p v r d R = Z → q_w yX7_goOn.cls yX7_goOn.name cX7_goOn 7 .return_ 1 (fun st I1 J1 => st = [] ∧ I1 = upR I 68 Z ∧ J1 = J) 3 [some (.ref 66), some (.int (nI S)), some (.int (nI h)), some (.int (nI p)), some (.int v), some (.int (nI d)), x6] [] (upR I 68 R) (J) := by
  intro r
  induction r with
  | zero =>
    intro d R x6 hr hd hZ
    obtain rfl : d = 7 := by omega
    have hZ2 : R = Z := hZ
    refine w_iload dX7_goOn_3 rfl ?_
    refine w_bipush (v := 7) dX7_goOn_5 (by decide) ?_
    refine w_icmp_ge (tgt := 72) dX7_goOn_7 (by decide) (fun c_7 => ?_) (fun c_7 => absurd (show (7 : Int32) ≤ nI 7 by decide) c_7)
    exact w_ret dX7_goOn_72 ⟨rfl, by rw [hZ2], rfl⟩
  | succ r ih =>
    intro d R x6 hr hd hZ
    have hd7 : d < 7 := by omega
    have hkd := kn_l d hd7
    obtain ⟨hq0, hq1⟩ := SH_kin hkd
    have hZ2 : ogo hl S h p v r (d + 1) (if (S.testBit d && !(d == p)) = true then oadd R (mclr S d) (if d = h then (hl d).find? (fun x => (mclr S d).testBit x) else some h) v else R) = Z := hZ
    have hKd := (hK d hd7).up (R := R) (by omega) (by omega)
    have hmc := mclr_lt S hS d hd7
    have ha1 := c_X7_add (I := upR I 68 R) (J := J) (v := v) hmc (o := (hl d).find? (fun x => (mclr S d).testBit x)) (fun x hx => (hK d hd7).mem (List.mem_of_find?_eq_some hx))
    have ha2 := c_X7_add (I := upR I 68 R) (J := J) (v := v) hmc (o := some h) (fun x hx => by cases hx; exact hh)
    rw [upR_upR, upR_t] at ha1 ha2
    refine w_iload dX7_goOn_3 rfl ?_
    refine w_bipush (v := 7) dX7_goOn_5 (by decide) ?_
    refine w_icmp_ge (tgt := 72) dX7_goOn_7 (by decide) (fun c_7 => absurd c_7 (nI_ge (b := 7) hd7 (by decide))) (fun c_7 => ?_)
    refine w_iload_n dX7_goOn_10 rfl ?_
    refine w_iload dX7_goOn_11 rfl ?_
    refine w_ishr dX7_goOn_13 ?_
    refine w_iconst (v := 1) dX7_goOn_14 (by decide) ?_
    refine w_iand dX7_goOn_15 ?_
    refine w_iconst (v := 1) dX7_goOn_16 (by decide) ?_
    refine w_icmp_ne (tgt := 66) dX7_goOn_17 (by decide) (fun c_17 => ?_) (fun c_17 => ?_)
    · refine w_iincv (c := 1) dX7_goOn_66 (by decide) rfl (by decide) rfl ?_
      refine w_goto (tgt := 3) dX7_goOn_69 (by decide) ?_
      rw [zbit_f hS hd7 c_17] at hZ2
      rw [nI_1]
      exact ih (d + 1) _ _ (by omega) (by omega) hZ2
    · refine w_iload dX7_goOn_20 rfl ?_
      refine w_iload_n dX7_goOn_22 rfl ?_
      refine w_icmp_eq (tgt := 66) dX7_goOn_23 (by decide) (fun c_23 => ?_) (fun c_23 => ?_)
      · refine w_iincv (c := 1) dX7_goOn_66 (by decide) rfl (by decide) rfl ?_
        refine w_goto (tgt := 3) dX7_goOn_69 (by decide) ?_
        have e := nI_inj (by omega) (by omega) c_23
        subst e
        rw [beq_self_eq_true, Bool.not_true, Bool.and_false] at hZ2
        rw [nI_1]
        exact ih _ _ _ (by omega) (by omega) hZ2
      · refine w_iload_n dX7_goOn_26 rfl ?_
        refine w_iconst (v := 1) dX7_goOn_27 (by decide) ?_
        refine w_iload dX7_goOn_28 rfl ?_
        refine w_ishl dX7_goOn_30 ?_
        refine w_iconst (v := (-1)) dX7_goOn_31 (by decide) ?_
        refine w_ixor dX7_goOn_32 ?_
        refine w_iand dX7_goOn_33 ?_
        rw [mI_clr S hS d hd7]
        refine w_istore dX7_goOn_34 (by decide) rfl ?_
        refine w_aload_n dX7_goOn_36 rfl ?_
        refine w_iload dX7_goOn_37 rfl ?_
        refine w_iload dX7_goOn_39 rfl ?_
        refine w_iload_n dX7_goOn_41 rfl ?_
        refine w_icmp_ne (tgt := 60) dX7_goOn_42 (by decide) (fun c_42 => ?_) (fun c_42 => ?_)
        · refine w_iload_n dX7_goOn_60 rfl ?_
          refine w_iload dX7_goOn_61 rfl ?_
          refine w_callVv dX7_goOn_63 k_X7_67 (by first | assumption | rfl) rfl (ha2) rfl rfl rfl (Nat.le_of_ble_eq_true rfl) (by first | decide | omega) ?_
          refine w_iincv (c := 1) dX7_goOn_66 (by decide) rfl (by decide) rfl ?_
          refine w_goto (tgt := 3) dX7_goOn_69 (by decide) ?_
          have e1 : d ≠ p := fun e => c_23 (by rw [e])
          have e2 : d ≠ h := fun e => c_42 (by rw [e])
          rw [zbit_t hS hd7 c_17, if_pos (by simp [e1]), if_neg e2] at hZ2
          rw [nI_1]
          exact ih (d + 1) _ _ (by omega) (by omega) hZ2
        · refine w_aload_n dX7_goOn_45 rfl ?_
          refine w_getR dX7_goOn_46 f_X7_11 (by first | assumption | rfl) rfl rfl ?_
          refine w_iload dX7_goOn_49 rfl ?_
          refine w_aald (j := d) dX7_goOn_51 (by first | assumption | rfl) rfl (by decide) rfl hd7 (by decide) (kn_r d hd7) ?_
          refine w_iload dX7_goOn_52 rfl ?_
          refine w_callVi dX7_goOn_54 k_X7_71 (by first | assumption | rfl) rfl (c_X5_firstOf hkd hKd hmc) rfl rfl rfl (Nat.le_of_ble_eq_true rfl) (by first | decide | omega) ?_
          refine w_goto (tgt := 61) dX7_goOn_57 (by decide) ?_
          refine w_iload dX7_goOn_61 rfl ?_
          refine w_callVv dX7_goOn_63 k_X7_67 (by first | assumption | rfl) rfl (ha1) rfl rfl rfl (Nat.le_of_ble_eq_true rfl) (by first | decide | omega) ?_
          refine w_iincv (c := 1) dX7_goOn_66 (by decide) rfl (by decide) rfl ?_
          refine w_goto (tgt := 3) dX7_goOn_69 (by decide) ?_
          have e1 : d ≠ p := fun e => c_23 (by rw [e])
          have e2 : d = h := nI_inj (by omega) (by omega) c_42
          rw [zbit_t hS hd7 c_17, if_pos (by simp [e1]), if_pos e2] at hZ2
          rw [nI_1]
          exact ih (d + 1) _ _ (by omega) (by omega) hZ2
set_option maxHeartbeats 4000000 in
set_option maxRecDepth 100000 in
theorem c_X7_goOn {I : Mem} {J : Lng} {hl : Nat → List Nat} (hK : ∀ d, d < 7 → KR I (69 + 2 * d) (hl d)) {S h p : Nat} {v : Int32} (hS : S < 128) (hh : h < 7) (hp : p < 7) : q_E yX7_goOn cX7_goOn 7 none 1 [.ref 66, .int (nI S), .int (nI h), .int (nI p), .int v] I J none (upR I 68 (ogo hl S h p v 7 0 (I 68))) (J) := by
  refine q_Ev me_X7_goOn rfl (Nat.le_of_ble_eq_true rfl) ?_
  show q_w _ _ _ _ _ _ _ 0 [some (.ref 66), some (.int (nI S)), some (.int (nI h)), some (.int (nI p)), some (.int v), none, none] [] I J
  refine w_iconst (v := 0) dX7_goOn_0 (by decide) ?_
  refine w_istore dX7_goOn_1 (by decide) rfl ?_
  refine w_mem (upR_id I 68).symm ?_
  exact l_X7_goOn hK hS hh hp 7 0 _ _ rfl (by decide) rfl
set_option maxHeartbeats 4000000 in
set_option maxRecDepth 100000 in
theorem c_X5_listHeirs_no {I : Mem} {J : Lng} {q t : Nat} {tie p : Int32} (hq : q ∈ q_kins) (ht : t ∈ q_lands) (hno : zhas I t p = false) : q_E yX5_listHeirs cX5_listHeirs 6 none 31 [.ref q, .ref t, .int p, .int tie] I J none (upI I q 1 0) (J) := by
  obtain ⟨ht0, ht1, ht2⟩ := SH_land ht
  obtain ⟨hq0, hq1⟩ := SH_kin hq
  have hh := c_X6_has ht (I := upI I q 1 0) (J := J) (p := p)
  rw [show zhas (upI I q 1 0) t p = false by unfold zhas at hno ⊢; rw [upI_ne (q_apart ht hq).1]; exact hno] at hh
  refine q_Ev me_X5_listHeirs rfl (Nat.le_of_ble_eq_true rfl) ?_
  show q_w _ _ _ _ _ _ _ 0 [some (.ref q), some (.ref t), some (.int p), some (.int tie), none, none] [] I J
  refine w_aload_n dX5_listHeirs_0 rfl ?_
  refine w_iconst (v := 0) dX5_listHeirs_1 (by decide) ?_
  refine w_putI dX5_listHeirs_2 f_X5_15 (by first | assumption | rfl) rfl ?_
  refine w_aload_n dX5_listHeirs_5 rfl ?_
  refine w_iload_n dX5_listHeirs_6 rfl ?_
  refine w_callVi dX5_listHeirs_7 k_X5_26 (by first | assumption | rfl) rfl (hh) rfl rfl rfl (Nat.le_of_ble_eq_true rfl) (by first | decide | omega) ?_
  refine w_if_ne (tgt := 14) dX5_listHeirs_10 (by decide) (fun c_10 => ?_) (fun c_10 => ?_)
  · exact absurd rfl c_10
  · exact w_ret dX5_listHeirs_13 ⟨rfl, rfl, rfl⟩
/-- only the orders' own rows have changed -/
def OO (I I' : Mem) : Prop := ∀ p, (p < 68 ∨ 83 ≤ p) → I' p = I p
theorem OO.rf {I : Mem} : OO I I := fun _ _ => rfl
theorem OO.tr {I I1 I2 : Mem} (h : OO I I1) (h2 : OO I1 I2) : OO I I2 := fun p a => (h2 p a).trans (h p a)
theorem OO.land {I I' : Mem} (h : OO I I') {t : Nat} (ht : t ∈ q_lands) : lnd I' t = lnd I t := by
  have : ∀ t ∈ q_lands, (t < 68 ∨ 83 ≤ t) ∧ (t + 1 < 68 ∨ 83 ≤ t + 1) ∧ (t + 2 < 68 ∨ 83 ≤ t + 2) := by decide
  obtain ⟨a, b, c⟩ := this t ht
  exact lnd_ne (h _ a) (h _ b) (h _ c)
/-- the heirs of each one -/
def ohl (a : Nat → Int32) (n : Nat) (j : Nat) : List Nat := if j < n then (phe a n (a 2) j).1 else []
theorem KR.keep {I I' : Mem} {q : Nat} {l : List Nat} (h : KR I q l) (h1 : I' q = I q) (h2 : I' (q + 1) = I (q + 1)) : KR I' q l := by
  unfold KR; rw [h1, h2]; exact h
/-- who holds, as a choice -/
def phd (a : Nat → Int32) : Option Nat := if a 1 = -9 then none else some (a 1).toNatClampNeg
theorem phd_ok {a : Nat → Int32} {n m : Nat} (h : PW a n m) : a 1 = oI (phd a) ∧ ∀ x, phd a = some x → x < n ∧ m.testBit x = true := by
  rcases h.2.2.2.2.2.1 with e | ⟨x, hx, hb, e⟩
  · have h2 : phd a = none := if_pos e
    rw [h2]; exact ⟨e, fun x hx => by cases hx⟩
  · have hn := h.2.1
    have h2 : phd a = some x := by
      show (if a 1 = -9 then none else some (a 1).toNatClampNeg) = some x
      rw [e, if_neg (nI_ne9 (by omega)), nI_clamp (by omega)]
    rw [h2]; exact ⟨e, fun y hy => by cases hy; exact ⟨hx, hb⟩⟩
theorem zhas_f {I : Mem} {t n j : Nat} (h : FM I t n) (hj : n ≤ j) (hj7 : j < 7) : zhas I t (nI j) = false := by
  cases hz : zhas I t (nI j) with
  | false => rfl
  | true =>
    obtain ⟨i, hi, e⟩ := h.inv hz
    have := nI_inj (by omega) (by omega) e
    omega
set_option maxHeartbeats 4000000 in
set_option maxRecDepth 100000 in
theorem l_X7_begin {I : Mem} {J : Lng} {n m : Nat} (hP : PW (lnd I 3) n m) : ∀ (r k : Nat) (I1 : Mem), 7 - k = r → k ≤ 7 → OO I I1 → I1 68 = fil (I 68) 0 896 → (∀ j, j < k → KR I1 (69 + 2 * j) (ohl (lnd I 3) n j)) → q_w yX7_begin.cls yX7_begin.name cX7_begin 3 .return_ 32 (fun st I1 J1 => st = [] ∧ ((none : Option Value) = none ∧ J1 = J ∧ OO I I1 ∧ I1 68 = oadd (fil (I 68) 0 896) m (phd (lnd I 3)) 1 ∧ ∀ j, j < 7 → KR I1 (69 + 2 * j) (ohl (lnd I 3) n j))) 10 [some (.ref 66), some (.ref 3), some (.int (nI k))] [] (I1) (J) := by
  obtain ⟨ht0, ht1, ht2⟩ := SH_land l3
  have hm := p2_128 hP.2.1 hP.2.2.2.1
  have hn7 := hP.2.1
  have hpo := phd_ok hP
  intro r
  induction r with
  | zero =>
    intro k I1 hr hk hO h68 hR
    obtain rfl : k = 7 := by omega
    have hl := hO.land l3
    have e4 : I1 3 4 = nI m := by rw [show I1 3 4 = lnd I1 3 0 from rfl, hl]; exact hP.2.2.1
    have e5 : I1 3 5 = oI (phd (lnd I 3)) := by rw [show I1 3 5 = lnd I1 3 1 from rfl, hl]; exact hpo.1
    have had := c_X7_add (I := I1) (J := J) (v := 1) hm (o := phd (lnd I 3)) (fun x hx => Nat.lt_of_lt_of_le (hpo.2 x hx).1 hn7)
    refine w_iload_n dX7_begin_10 rfl ?_
    refine w_bipush (v := 7) dX7_begin_11 (by decide) ?_
    refine w_icmp_ge (tgt := 37) dX7_begin_13 (by decide) (fun c_13 => ?_) (fun c_13 => absurd (show (7 : Int32) ≤ nI 7 by decide) c_13)
    refine w_aload_n dX7_begin_37 rfl ?_
    refine w_aload_n dX7_begin_38 rfl ?_
    refine w_getI dX7_begin_39 f_X7_26 (by first | assumption | rfl) rfl ?_
    rw [e4]
    refine w_aload_n dX7_begin_42 rfl ?_
    refine w_getI dX7_begin_43 f_X7_64 (by first | assumption | rfl) rfl ?_
    rw [e5]
    refine w_iconst (v := 1) dX7_begin_46 (by decide) ?_
    refine w_callVv dX7_begin_47 k_X7_67 (by first | assumption | rfl) rfl (had) rfl rfl rfl (Nat.le_of_ble_eq_true rfl) (by first | decide | omega) ?_
    refine w_ret dX7_begin_50 ⟨rfl, rfl, rfl, hO.tr (fun p hp => upR_ne (by omega)), by rw [upR_t, h68], fun j hj => ?_⟩
    exact (hR j hj).up (by omega) (by omega)
  | succ r ih =>
    intro k I1 hr hk hO h68 hR
    have hk7 : k < 7 := by omega
    have hkd := kn_l k hk7
    obtain ⟨hq0, hq1⟩ := SH_kin hkd
    have hl := hO.land l3
    have hP1 : PW (lnd I1 3) n m := by rw [hl]; exact hP
    rcases Nat.lt_or_ge k n with hkn | hkn
    · have hh := c_X5_listHeirs (J := J) (tie := I1 3 6) hkd l3 hP1.FM hP1.FP hkn
      refine w_iload_n dX7_begin_10 rfl ?_
      refine w_bipush (v := 7) dX7_begin_11 (by decide) ?_
      refine w_icmp_ge (tgt := 37) dX7_begin_13 (by decide) (fun c_13 => absurd c_13 (nI_ge (b := 7) hk7 (by decide))) (fun c_13 => ?_)
      refine w_aload_n dX7_begin_16 rfl ?_
      refine w_getR dX7_begin_17 f_X7_11 (by first | assumption | rfl) rfl rfl ?_
      refine w_iload_n dX7_begin_20 rfl ?_
      refine w_aald (j := k) dX7_begin_21 (by first | assumption | rfl) rfl (by decide) rfl hk7 (by decide) (kn_r k hk7) ?_
      refine w_aload_n dX7_begin_22 rfl ?_
      refine w_iload_n dX7_begin_23 rfl ?_
      refine w_aload_n dX7_begin_24 rfl ?_
      refine w_getI dX7_begin_25 f_X7_57 (by first | assumption | rfl) rfl ?_
      refine w_callVv dX7_begin_28 k_X7_60 (by first | assumption | rfl) rfl (hh) rfl rfl rfl (Nat.le_of_ble_eq_true rfl) (by first | decide | omega) ?_
      refine w_iincv (c := 1) dX7_begin_31 (by decide) rfl (by decide) rfl ?_
      refine w_goto (tgt := 10) dX7_begin_34 (by decide) ?_
      rw [nI_1]
      refine ih (k + 1) _ (by omega) (by omega) (hO.tr (fun p hp => kput_ne (by omega) (by omega))) (by rw [kput_ne (by omega) (by omega)]; exact h68) (fun j hj => ?_)
      rcases Nat.lt_or_ge j k with q | q
      · exact (hR j q).keep (kput_ne (by omega) (by omega)) (kput_ne (by omega) (by omega))
      · obtain rfl : j = k := by omega
        have e6 : I1 3 6 = lnd I 3 2 := by rw [show I1 3 6 = lnd I1 3 2 from rfl, hl]
        have e7 : ohl (lnd I 3) n j = (fhe I1 3 n (I1 3 6) j).1 := by
          rw [fhe_phe hn7 hP1.FP hkn, hl, e6]; exact if_pos hkn
        rw [e7]
        exact KR.k hn7 (fhe_KI hn7 hP1.FP hkn)
    · have hh := c_X5_listHeirs_no (I := I1) (J := J) (tie := I1 3 6) (p := nI k) hkd l3 (zhas_f hP1.FM hkn hk7)
      refine w_iload_n dX7_begin_10 rfl ?_
      refine w_bipush (v := 7) dX7_begin_11 (by decide) ?_
      refine w_icmp_ge (tgt := 37) dX7_begin_13 (by decide) (fun c_13 => absurd c_13 (nI_ge (b := 7) hk7 (by decide))) (fun c_13 => ?_)
      refine w_aload_n dX7_begin_16 rfl ?_
      refine w_getR dX7_begin_17 f_X7_11 (by first | assumption | rfl) rfl rfl ?_
      refine w_iload_n dX7_begin_20 rfl ?_
      refine w_aald (j := k) dX7_begin_21 (by first | assumption | rfl) rfl (by decide) rfl hk7 (by decide) (kn_r k hk7) ?_
      refine w_aload_n dX7_begin_22 rfl ?_
      refine w_iload_n dX7_begin_23 rfl ?_
      refine w_aload_n dX7_begin_24 rfl ?_
      refine w_getI dX7_begin_25 f_X7_57 (by first | assumption | rfl) rfl ?_
      refine w_callVv dX7_begin_28 k_X7_60 (by first | assumption | rfl) rfl (hh) rfl rfl rfl (Nat.le_of_ble_eq_true rfl) (by first | decide | omega) ?_
      refine w_iincv (c := 1) dX7_begin_31 (by decide) rfl (by decide) rfl ?_
      refine w_goto (tgt := 10) dX7_begin_34 (by decide) ?_
      rw [nI_1]
      refine ih (k + 1) _ (by omega) (by omega) (hO.tr (fun p hp => upI_ne (by omega))) (by rw [upI_ne (by omega)]; exact h68) (fun j hj => ?_)
      rcases Nat.lt_or_ge j k with q | q
      · exact (hR j q).keep (upI_ne (by omega)) (upI_ne (by omega))
      · obtain rfl : j = k := by omega
        rw [show ohl (lnd I 3) n j = [] from if_neg (by omega)]
        exact ⟨upI_tt, by decide, fun i hi => absurd hi (Nat.not_lt_zero i)⟩
set_option maxHeartbeats 4000000 in
set_option maxRecDepth 100000 in
theorem c_X7_begin {I : Mem} {J : Lng} {n m : Nat} (hP : PW (lnd I 3) n m) : q_F yX7_begin cX7_begin 3 none 32 [.ref 66, .ref 3] I J (fun r I1 J1 => r = none ∧ J1 = J ∧ OO I I1 ∧ I1 68 = oadd (fil (I 68) 0 896) m (phd (lnd I 3)) 1 ∧ ∀ j, j < 7 → KR I1 (69 + 2 * j) (ohl (lnd I 3) n j)) := by
  refine q_Fv me_X7_begin rfl (Nat.le_of_ble_eq_true rfl) ?_
  show q_w _ _ _ _ _ _ _ 0 [some (.ref 66), some (.ref 3), none] [] I J
  refine w_aload_n dX7_begin_0 rfl ?_
  refine w_getR dX7_begin_1 f_X7_17 (by first | assumption | rfl) rfl rfl ?_
  refine w_iconst (v := 0) dX7_begin_4 (by decide) ?_
  refine w_callSv dX7_begin_5 k_X7_51 (c_J7_fill_53178) rfl rfl rfl (Nat.le_of_ble_eq_true rfl) (by first | decide | omega) ?_
  refine w_iconst (v := 0) dX7_begin_8 (by decide) ?_
  refine w_istore_n dX7_begin_9 (by decide) rfl ?_
  have hO : OO I (upR I 68 (fil (I 68) 0 896)) := fun p hp => upR_ne (by omega)
  exact l_X7_begin hP 7 0 _ rfl (by decide) hO upR_t (fun j hj => absurd hj (Nat.not_lt_zero j))
