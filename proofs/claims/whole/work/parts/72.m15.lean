set_option maxHeartbeats 4000000 in
set_option maxRecDepth 100000 in
theorem l_ties {I : Mem} {J : Lng} {N m n e R : Nat} {p : Int32} (hP : PW (I 92) N m) (hn : n < 5) (he : e < 2 ^ 31) (hpos : ∀ i, i < n → 0 < e / 10 ^ i % 10) (hc : pcan m (dq n e) = true) : ∀ (r k b : Nat) (I1 : Mem) (x6 : Option Value), 4 - k = r → k ≤ 4 → b < 128 → Mr MSS I I1 → pts (I 92) N m (dq n e) p r k b = R → q_w yX10_ties.cls yX10_ties.name cX10_ties 7 .ireturn 5 (fun st I2 J1 => ∃ v : Int32, st = [.int v] ∧ (some (Value.int v) = some (.int (nI R)) ∧ J1 = J ∧ Mr MSS I I2)) 33 [some (.ref 89), some (.int (nI n)), some (.int (nI e)), some (.int (p)), some (.int (nI b)), some (.int (nI k)), x6] [] (I1) (J) := by
  have h7 := hP.2.1
  intro r
  induction r with
  | zero =>
    intro k b I1 x6 hr hk4 hb hM hR
    obtain rfl : k = 4 := by omega
    have hR2 : b = R := hR
    refine w_iload dX10_ties_33 rfl ?_
    refine w_iconst (v := 4) dX10_ties_35 (by decide) ?_
    refine w_icmp_ge (tgt := 118) dX10_ties_36 (by decide) (fun c_36 => ?_) (fun c_36 => absurd (show (4 : Int32) ≤ nI 4 by decide) c_36)
    refine w_iload dX10_ties_118 rfl ?_
    exact w_ret dX10_ties_120 ⟨_, rfl, by rw [hR2], rfl, hM⟩
  | succ r ih =>
    intro k b I1 x6 hr hk4 hb hM hR
    have hk3 : k < 4 := by omega
    have h92 : I1 92 = I 92 := hM.1 92 (by decide) (by decide)
    have h93 : (upI (upR I1 93 (cpy (I1 93) (I1 92) 0 0 22)) 93 2 (nI k)) 93 = upd (cpy (I1 93) (I 92) 0 0 22) 2 (nI k) := by rw [upI_self, upR_t, h92]
    have hq : Peq N (upd (I 92) 2 (nI k)) (upd (cpy (I1 93) (I 92) 0 0 22) 2 (nI k)) := (Peq.of22 h7 (fun q hq => by
      have := cpy_in (dst := I1 93) (src := I 92) (d := 0) (s := 0) (k := 22) hq
      rw [Nat.zero_add] at this
      exact this)).up (by decide)
    have hPb : PW (upd (cpy (I1 93) (I 92) 0 0 22) 2 (nI k)) N m := hq.wf (hP.tie hk3)
    have hbg := c_X10_begin (I := I1) (J := J)
    unfold pts at hR
    refine w_iload dX10_ties_33 rfl ?_
    refine w_iconst (v := 4) dX10_ties_35 (by decide) ?_
    refine w_icmp_ge (tgt := 118) dX10_ties_36 (by decide) (fun c_36 => absurd c_36 (nI_ge (b := 4) hk3 (by decide))) (fun c_36 => ?_)
    refine w_aload_n dX10_ties_39 rfl ?_
    refine w_callVv dX10_ties_40 k_X10_127 (by first | assumption | rfl) rfl (hbg) rfl rfl rfl (Nat.le_of_ble_eq_true rfl) (by first | decide | omega) ?_
    refine w_aload_n dX10_ties_43 rfl ?_
    refine w_getR dX10_ties_44 f_X10_19 (by first | assumption | rfl) rfl rfl ?_
    refine w_iconst (v := 2) dX10_ties_47 (by decide) ?_
    refine w_iload dX10_ties_48 rfl ?_
    refine w_iast (j := 2) dX10_ties_50 (by first | assumption | rfl) rfl rfl (by decide) (by decide) ?_
    refine w_iload_n dX10_ties_51 rfl ?_
    refine w_iconst (v := 1) dX10_ties_52 (by decide) ?_
    refine w_isub dX10_ties_53 ?_
    refine w_istore dX10_ties_54 (by decide) rfl ?_
    refine l_ties_d (I := I) (N := N) (D := pdies N ((upI (upR I1 93 (cpy (I1 93) (I1 92) 0 0 22)) 93 2 (nI k)) 93) m (dq n e)) hn he hpos n _ m (Nat.le_refl _) ((hM.ur (by decide) (by decide)).up (by decide) (by decide)) (by rw [h93]; exact hPb) hc rfl (fun I2 x6 hM2 hD => ?_)
    have e1 : I2 93 1 = pdies N (upd (I 92) 2 (nI k)) m (dq n e) 1 := by
      rw [hD, h93]
      exact (pdies_peq _ hq (hP.tie hk3) hc).1 1 (by decide)
    refine w_iload dX10_ties_89 rfl ?_
    refine w_aload_n dX10_ties_91 rfl ?_
    refine w_getR dX10_ties_92 f_X10_19 (by first | assumption | rfl) rfl rfl ?_
    refine w_iconst (v := 1) dX10_ties_95 (by decide) ?_
    refine w_iald (j := 1) dX10_ties_96 (by first | assumption | rfl) rfl rfl (by decide) (by decide) ?_
    rw [e1]
    refine w_iload_n dX10_ties_97 rfl ?_
    refine w_icmp_ne (tgt := 108) dX10_ties_98 (by decide) (fun c_98 => ?_) (fun c_98 => ?_)
    · refine w_iconst (v := 0) dX10_ties_108 (by decide) ?_
      refine w_ior dX10_ties_109 ?_
      rw [if_neg c_98] at hR
      rw [Int32.or_zero]
      refine w_istore dX10_ties_110 (by decide) rfl ?_
      refine w_iincv (c := 1) dX10_ties_112 (by decide) rfl (by decide) rfl ?_
      refine w_goto (tgt := 33) dX10_ties_115 (by decide) ?_
      rw [nI_1]
      exact ih (k + 1) _ _ _ (by omega) (by omega) hb hM2 hR
    · refine w_iconst (v := 1) dX10_ties_101 (by decide) ?_
      refine w_iload dX10_ties_102 rfl ?_
      refine w_ishl dX10_ties_104 ?_
      refine w_goto (tgt := 109) dX10_ties_105 (by decide) ?_
      refine w_ior dX10_ties_109 ?_
      rw [if_pos c_98] at hR
      rw [mI_set b hb k (by omega)]
      refine w_istore dX10_ties_110 (by decide) rfl ?_
      refine w_iincv (c := 1) dX10_ties_112 (by decide) rfl (by decide) rfl ?_
      refine w_goto (tgt := 33) dX10_ties_115 (by decide) ?_
      rw [nI_1]
      exact ih (k + 1) _ _ _ (by omega) (by omega) (mset_lt b hb k (by omega)) hM2 hR
set_option maxHeartbeats 4000000 in
set_option maxRecDepth 100000 in
theorem c_X10_ties {I : Mem} {J : Lng} {N m : Nat} (hP : PW (I 92) N m) {x d p : Int32} {k e j : Nat} (hx : pin1 x 4 = some k) (hd : pin d (10 ^ k) = some e) (hk : dok m k e 0 = true) (hp : pin p N = some j) : q_F yX10_ties cX10_ties 7 (some .int) 5 [.ref 89, .int x, .int d, .int p] I J (fun r I1 J1 => r = some (.int (nI (pts (I 92) N m (dpl k e) p 4 0 0))) ∧ J1 = J ∧ Mr MSS I I1) := by
  have hnd := c_X10_noDeaths (I := upI I 89 0 0) (J := J) (by rw [t0_92]; exact hP) hx hd
  rw [hk] at hnd
  have h7 := hP.2.1
  have hm := p2_128 h7 hP.2.2.2.1
  obtain ⟨hk1, hk4, rfl⟩ := pin1_some (by decide) hx
  have h10 := ten_le k (by omega)
  obtain ⟨hek, rfl⟩ := pin_some (by omega) hd
  have hnp := c_X10_noPerson (I := upI I 89 0 0) (J := J) (N := N) (by rw [t0_92]; exact hP.1) hP.2.1 (p := p)
  rw [hp] at hnp
  refine q_Fi me_X10_ties rfl (Nat.le_of_ble_eq_true rfl) ?_
  show q_w _ _ _ _ _ _ _ 0 [some (.ref 89), some (.int (nI k)), some (.int (nI e)), some (.int p), none, none, none] [] I J
  refine w_aload_n dX10_ties_0 rfl ?_
  refine w_iconst (v := 0) dX10_ties_1 (by decide) ?_
  refine w_putI dX10_ties_2 f_X10_41 (by first | assumption | rfl) rfl ?_
  refine w_aload_n dX10_ties_5 rfl ?_
  refine w_iload_n dX10_ties_6 rfl ?_
  refine w_iload_n dX10_ties_7 rfl ?_
  refine w_callVi dX10_ties_8 k_X10_145 (by first | assumption | rfl) rfl (hnd) rfl rfl rfl (Nat.le_of_ble_eq_true rfl) (by first | decide | omega) ?_
  refine w_if_eq (tgt := 17) dX10_ties_11 (by decide) (fun c_11 => ?_) (fun c_11 => absurd (rfl : zB false = 0) c_11)
  refine w_aload_n dX10_ties_17 rfl ?_
  refine w_iload_n dX10_ties_18 rfl ?_
  refine w_callVi dX10_ties_19 k_X10_104 (by first | assumption | rfl) rfl (hnp) rfl rfl rfl (Nat.le_of_ble_eq_true rfl) (by first | decide | omega) ?_
  refine w_if_eq (tgt := 27) dX10_ties_22 (by decide) (fun c_22 => ?_) (fun c_22 => absurd (rfl : zB false = 0) c_22)
  refine w_iconst (v := 0) dX10_ties_27 (by decide) ?_
  refine w_istore dX10_ties_28 (by decide) rfl ?_
  refine w_iconst (v := 0) dX10_ties_30 (by decide) ?_
  refine w_istore dX10_ties_31 (by decide) rfl ?_
  rw [dpl_dq]
  have hcc := dok_pcan hm hk
  rw [dpl_dq] at hcc
  refine w_conseq ?_ (l_ties (I := upI I 89 0 0) (J := J) (by rw [t0_92]; exact hP) (show k < 5 by omega) (by omega) (dok_pos k e 0 hk) hcc 4 0 0 _ _ rfl (by decide) (by decide) Mr.rf rfl)
  rw [t0_92]
  rintro s i j ⟨v, h1, h2, h3, h4⟩
  exact ⟨v, h1, h2, h3, (Mr.rf.f (by decide)).tr h4⟩
