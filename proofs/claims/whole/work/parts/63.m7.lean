set_option maxHeartbeats 4000000 in
set_option maxRecDepth 100000 in
theorem l_X10_power {I : Mem} {J : Lng} {b e : Nat} (he : e < 100) : ∀ (r k : Nat), e - k = r → k ≤ e → q_w yX10_power.cls yX10_power.name cX10_power 4 .ireturn 0 (fun st I1 J1 => st = [.int (nI (b ^ e))] ∧ I1 = I ∧ J1 = J) 4 [some (.int (nI b)), some (.int (nI e)), some (.int (nI (b ^ k))), some (.int (nI k))] [] (I) (J) := by
  intro r
  induction r with
  | zero =>
    intro k hr hk
    obtain rfl : k = e := by omega
    refine w_iload_n dX10_power_4 rfl ?_
    refine w_iload_n dX10_power_5 rfl ?_
    refine w_icmp_ge (tgt := 19) dX10_power_6 (by decide) (fun c_6 => ?_) (fun c_6 => absurd (Int32.le_refl _) c_6)
    refine w_iload_n dX10_power_19 rfl ?_
    exact w_ret dX10_power_20 ⟨rfl, rfl, rfl⟩
  | succ r ih =>
    intro k hr hk
    refine w_iload_n dX10_power_4 rfl ?_
    refine w_iload_n dX10_power_5 rfl ?_
    refine w_icmp_ge (tgt := 19) dX10_power_6 (by decide) (fun c_6 => absurd c_6 (nI_ge (by omega) (by omega))) (fun c_6 => ?_)
    refine w_iload_n dX10_power_9 rfl ?_
    refine w_iload_n dX10_power_10 rfl ?_
    refine w_imul dX10_power_11 ?_
    rw [pk_mul, ← Nat.pow_succ]
    refine w_istore_n dX10_power_12 (by decide) rfl ?_
    refine w_iincv (c := 1) dX10_power_13 (by decide) rfl (by decide) rfl ?_
    refine w_goto (tgt := 4) dX10_power_16 (by decide) ?_
    rw [nI_1]
    exact ih (k + 1) (by omega) (by omega)
set_option maxHeartbeats 4000000 in
set_option maxRecDepth 100000 in
theorem c_X10_power {I : Mem} {J : Lng} {b e : Nat} (he : e < 100) : q_E yX10_power cX10_power 4 (some .int) 0 [.int (nI b), .int (nI e)] I J (some (.int (nI (b ^ e)))) (I) (J) := by
  refine q_Ei me_X10_power rfl (Nat.le_of_ble_eq_true rfl) ?_
  show q_w _ _ _ _ _ _ _ 0 [some (.int (nI b)), some (.int (nI e)), none, none] [] I J
  refine w_iconst (v := 1) dX10_power_0 (by decide) ?_
  refine w_istore_n dX10_power_1 (by decide) rfl ?_
  refine w_iconst (v := 0) dX10_power_2 (by decide) ?_
  refine w_istore_n dX10_power_3 (by decide) rfl ?_
  exact l_X10_power he e 0 rfl (Nat.zero_le _)
set_option maxHeartbeats 4000000 in
set_option maxRecDepth 100000 in
theorem c_X10_families_b {I : Mem} {J : Lng} {x : Int32} (hx : pin1 x 20 = none) : q_E yX10_families cX10_families 6 (some .int) 5 [.ref 89, .int x] I J (some (.int (-2))) (upI I 89 0 0) (J) := by
  have hin := c_X10_in (I := upI I 89 0 0) (J := J) (v := x.toInt64) (a := 1) (b := 20)
  rw [zin_pin1 (N := 20) (by decide), hx] at hin
  refine q_Ei me_X10_families rfl (Nat.le_of_ble_eq_true rfl) ?_
  show q_w _ _ _ _ _ _ _ 0 [some (.ref 89), some (.int x), none, none, none, none] [] I J
  refine w_aload_n dX10_families_0 rfl ?_
  refine w_iconst (v := 0) dX10_families_1 (by decide) ?_
  refine w_putI dX10_families_2 f_X10_41 (by first | assumption | rfl) rfl ?_
  refine w_iload_n dX10_families_5 rfl ?_
  refine w_i2l dX10_families_6 ?_
  refine w_lconst (v := 1) dX10_families_7 (by decide) ?_
  refine w_ldc2 dX10_families_8 c_X10_179 ?_
  refine w_callSi dX10_families_11 k_X10_45 (hin) rfl rfl rfl (Nat.le_of_ble_eq_true rfl) (by first | decide | omega) ?_
  refine w_if_ne (tgt := 20) dX10_families_14 (by decide) (fun c_14 => absurd c_14 (fun q => q rfl)) (fun c_14 => ?_)
  refine w_bipush (v := (-2)) dX10_families_17 (by decide) ?_
  exact w_ret dX10_families_19 ⟨rfl, rfl, rfl⟩
set_option maxHeartbeats 4000000 in
set_option maxRecDepth 100000 in
theorem l_X10_families {I : Mem} {J : Lng} {N n : Nat} {Z : Int32 × Int64} {st : Int64 → Int64} {dr : Int64 → Int32} (hst : ∀ s : Int64, s * 6364136223846793005 + 1442695040888963407 = st s) (hdr : ∀ s : Int64, ((s.toUInt64 >>> ((33 : Int32).toInt64.toUInt64 &&& Int64.toUInt64 63)).toInt64 - (s.toUInt64 >>> ((33 : Int32).toInt64.toUInt64 &&& Int64.toUInt64 63)).toInt64 / 10 * 10).toInt32 = dr s) (hn20 : n ≤ 20) (hN : I 92 6 = nI N) : ∀ (r k : Nat) (c : Int32) (s : Int64) (x4 x5 : Option Value) (I1 : Mem) (m : Nat), n - k = r → k ≤ n → Mr MSS I I1 → PW (I1 93) N m → pfm st dr N r (I1 93) m s c = Z → q_w yX10_families.cls yX10_families.name cX10_families 6 .ireturn 5 (fun sk I2 J1 => ∃ v : Int32, sk = [.int v] ∧ (some (Value.int v) = some (.int Z.1) ∧ J1 = upJ J 89 Z.2 ∧ Mr MSS I I2)) 28 [some (.ref 89), some (.int (nI n)), some (.int (c)), some (.int (nI k)), x4, x5] [] (I1) (upJ J 89 s) := by
  intro r
  induction r with
  | zero =>
    intro k c s x4 x5 I1 m hr hk hM hP hR
    obtain rfl : k = n := by omega
    have hR2 : (c, s) = Z := hR
    refine w_iload_n dX10_families_28 rfl ?_
    refine w_iload_n dX10_families_29 rfl ?_
    refine w_icmp_ge (tgt := 129) dX10_families_30 (by decide) (fun c_30 => ?_) (fun c_30 => absurd (Int32.le_refl _) c_30)
    refine w_iload_n dX10_families_129 rfl ?_
    exact w_ret dX10_families_130 ⟨_, rfl, by rw [← hR2], by rw [← hR2], hM⟩
  | succ r ih =>
    intro k c s x4 x5 I1 m hr hk hM hP hR
    have hm := p2_128 hP.2.1 hP.2.2.2.1
    have h7 := hP.2.1
    have h92 : I1 92 = I 92 := hM.1 92 (by decide) (by decide)
    have hnp := c_X10_noPerson (I := I1) (J := upJ J 89 (st s)) (N := N) (by rw [h92]; exact hN) h7 (p := dr (st s))
    have h0 : I1 93 0 = nI m := hP.2.2.1
    cases hpl : plv N m (dr (st s)) with
    | none =>
      rw [pfm_none hpl] at hR
      cases hpi : pin (dr (st s)) N with
      | none =>
        rw [hpi] at hnp
        refine w_iload_n dX10_families_28 rfl ?_
        refine w_iload_n dX10_families_29 rfl ?_
        refine w_icmp_ge (tgt := 129) dX10_families_30 (by decide) (fun c_30 => absurd c_30 (nI_ge (b := n) (by omega) (by omega))) (fun c_30 => ?_)
        refine w_aload_n dX10_families_33 rfl ?_
        refine w_aload_n dX10_families_34 rfl ?_
        refine w_getJ dX10_families_35 f_X10_175 (by first | assumption | rfl) rfl ?_
        refine w_ldc2 dX10_families_38 c_X10_181 ?_
        refine w_lmul dX10_families_41 ?_
        refine w_ldc2 dX10_families_42 c_X10_183 ?_
        refine w_ladd dX10_families_45 ?_
        refine w_putJ dX10_families_46 f_X10_175 (by first | assumption | rfl) rfl ?_
        refine w_show (L2 := [some (.ref 89), some (.int (nI n)), some (.int c), some (.int (nI k)), x4, x5]) (st2 := []) (I2 := I1) (J2 := upJ J 89 (st s)) ?_ rfl rfl rfl (by rw [upJ_upJ, upJ_tt, hst])
        refine w_aload_n dX10_families_49 rfl ?_
        refine w_getJ dX10_families_50 f_X10_175 (by first | assumption | rfl) rfl ?_
        refine w_bipush (v := 33) dX10_families_53 (by decide) ?_
        refine w_lushr dX10_families_55 ?_
        refine w_ldc2 dX10_families_56 c_X10_185 ?_
        refine w_lrem dX10_families_59 (by decide) ?_
        refine w_l2i dX10_families_60 ?_
        refine w_show (L2 := [some (.ref 89), some (.int (nI n)), some (.int c), some (.int (nI k)), x4, x5]) (st2 := [.int (dr (st s))]) (I2 := I1) (J2 := upJ J 89 (st s)) ?_ rfl (by rw [upJ_tt, hdr]) rfl rfl
        refine w_istore dX10_families_61 (by decide) rfl ?_
        refine w_aload_n dX10_families_63 rfl ?_
        refine w_iload dX10_families_64 rfl ?_
        refine w_callVi dX10_families_66 k_X10_104 (by first | assumption | rfl) rfl (hnp) rfl rfl rfl (Nat.le_of_ble_eq_true rfl) (by first | decide | omega) ?_
        refine w_if_ne (tgt := 123) dX10_families_69 (by decide) (fun c_69 => ?_) (fun c_69 => absurd c_69 (show ¬ zB true = 0 by decide))
        refine w_iincv (c := 1) dX10_families_123 (by decide) rfl (by decide) rfl ?_
        refine w_goto (tgt := 28) dX10_families_126 (by decide) ?_
        rw [nI_1]
        exact ih (k + 1) _ _ _ _ _ m (by omega) (by omega) hM hP hR
      | some j =>
        rw [hpi] at hnp
        obtain ⟨hj, ej⟩ := pin_some (by omega) hpi
        have hbf : m.testBit j = false := by
          cases hb : m.testBit j with
          | false => rfl
          | true =>
            unfold plv at hpl
            rw [hpi] at hpl
            dsimp only at hpl
            rw [if_pos hb] at hpl; cases hpl
        have hha := c_X10_has (I := I1) (J := upJ J 89 (st s)) (s := nI m) (k := nI j)
        rw [mI_bit m hm j (by omega), hbf, ← ej] at hha
        refine w_iload_n dX10_families_28 rfl ?_
        refine w_iload_n dX10_families_29 rfl ?_
        refine w_icmp_ge (tgt := 129) dX10_families_30 (by decide) (fun c_30 => absurd c_30 (nI_ge (b := n) (by omega) (by omega))) (fun c_30 => ?_)
        refine w_aload_n dX10_families_33 rfl ?_
        refine w_aload_n dX10_families_34 rfl ?_
        refine w_getJ dX10_families_35 f_X10_175 (by first | assumption | rfl) rfl ?_
        refine w_ldc2 dX10_families_38 c_X10_181 ?_
        refine w_lmul dX10_families_41 ?_
        refine w_ldc2 dX10_families_42 c_X10_183 ?_
        refine w_ladd dX10_families_45 ?_
        refine w_putJ dX10_families_46 f_X10_175 (by first | assumption | rfl) rfl ?_
        refine w_show (L2 := [some (.ref 89), some (.int (nI n)), some (.int c), some (.int (nI k)), x4, x5]) (st2 := []) (I2 := I1) (J2 := upJ J 89 (st s)) ?_ rfl rfl rfl (by rw [upJ_upJ, upJ_tt, hst])
        refine w_aload_n dX10_families_49 rfl ?_
        refine w_getJ dX10_families_50 f_X10_175 (by first | assumption | rfl) rfl ?_
        refine w_bipush (v := 33) dX10_families_53 (by decide) ?_
        refine w_lushr dX10_families_55 ?_
        refine w_ldc2 dX10_families_56 c_X10_185 ?_
        refine w_lrem dX10_families_59 (by decide) ?_
        refine w_l2i dX10_families_60 ?_
        refine w_show (L2 := [some (.ref 89), some (.int (nI n)), some (.int c), some (.int (nI k)), x4, x5]) (st2 := [.int (dr (st s))]) (I2 := I1) (J2 := upJ J 89 (st s)) ?_ rfl (by rw [upJ_tt, hdr]) rfl rfl
        refine w_istore dX10_families_61 (by decide) rfl ?_
        refine w_aload_n dX10_families_63 rfl ?_
        refine w_iload dX10_families_64 rfl ?_
        refine w_callVi dX10_families_66 k_X10_104 (by first | assumption | rfl) rfl (hnp) rfl rfl rfl (Nat.le_of_ble_eq_true rfl) (by first | decide | omega) ?_
        refine w_if_ne (tgt := 123) dX10_families_69 (by decide) (fun c_69 => absurd c_69 (fun q => q rfl)) (fun c_69 => ?_)
        refine w_aload_n dX10_families_72 rfl ?_
        refine w_getR dX10_families_73 f_X10_19 (by first | assumption | rfl) rfl rfl ?_
        refine w_iconst (v := 0) dX10_families_76 (by decide) ?_
        refine w_iald (j := 0) dX10_families_77 (by first | assumption | rfl) rfl rfl (by decide) (by decide) ?_
        rw [h0]
        refine w_iload dX10_families_78 rfl ?_
        refine w_callSi dX10_families_80 k_X10_82 (hha) rfl rfl rfl (Nat.le_of_ble_eq_true rfl) (by first | decide | omega) ?_
        refine w_if_eq (tgt := 123) dX10_families_83 (by decide) (fun c_83 => ?_) (fun c_83 => absurd (rfl : zB false = 0) c_83)
        refine w_iincv (c := 1) dX10_families_123 (by decide) rfl (by decide) rfl ?_
        refine w_goto (tgt := 28) dX10_families_126 (by decide) ?_
        rw [nI_1]
        exact ih (k + 1) _ _ _ _ _ m (by omega) (by omega) hM hP hR
    | some j =>
      rw [pfm_some hpl] at hR
      obtain ⟨hj, ej, hb⟩ := plv_some h7 hpl
      have hpi : pin (dr (st s)) N = some j := by rw [ej]; exact pin_nI (by omega) hj
      rw [hpi] at hnp
      have hha := c_X10_has (I := I1) (J := upJ J 89 (st s)) (s := nI m) (k := nI j)
      rw [mI_bit m hm j (by omega), hb, ← ej] at hha
      have hgd := c_X10_goDie (I := I1) (J := upJ J 89 (st s)) p93 hP hj
      rw [← ej] at hgd
      refine w_iload_n dX10_families_28 rfl ?_
      refine w_iload_n dX10_families_29 rfl ?_
      refine w_icmp_ge (tgt := 129) dX10_families_30 (by decide) (fun c_30 => absurd c_30 (nI_ge (b := n) (by omega) (by omega))) (fun c_30 => ?_)
      refine w_aload_n dX10_families_33 rfl ?_
      refine w_aload_n dX10_families_34 rfl ?_
      refine w_getJ dX10_families_35 f_X10_175 (by first | assumption | rfl) rfl ?_
      refine w_ldc2 dX10_families_38 c_X10_181 ?_
      refine w_lmul dX10_families_41 ?_
      refine w_ldc2 dX10_families_42 c_X10_183 ?_
      refine w_ladd dX10_families_45 ?_
      refine w_putJ dX10_families_46 f_X10_175 (by first | assumption | rfl) rfl ?_
      refine w_show (L2 := [some (.ref 89), some (.int (nI n)), some (.int c), some (.int (nI k)), x4, x5]) (st2 := []) (I2 := I1) (J2 := upJ J 89 (st s)) ?_ rfl rfl rfl (by rw [upJ_upJ, upJ_tt, hst])
      refine w_aload_n dX10_families_49 rfl ?_
      refine w_getJ dX10_families_50 f_X10_175 (by first | assumption | rfl) rfl ?_
      refine w_bipush (v := 33) dX10_families_53 (by decide) ?_
      refine w_lushr dX10_families_55 ?_
      refine w_ldc2 dX10_families_56 c_X10_185 ?_
      refine w_lrem dX10_families_59 (by decide) ?_
      refine w_l2i dX10_families_60 ?_
      refine w_show (L2 := [some (.ref 89), some (.int (nI n)), some (.int c), some (.int (nI k)), x4, x5]) (st2 := [.int (dr (st s))]) (I2 := I1) (J2 := upJ J 89 (st s)) ?_ rfl (by rw [upJ_tt, hdr]) rfl rfl
      refine w_istore dX10_families_61 (by decide) rfl ?_
      refine w_aload_n dX10_families_63 rfl ?_
      refine w_iload dX10_families_64 rfl ?_
      refine w_callVi dX10_families_66 k_X10_104 (by first | assumption | rfl) rfl (hnp) rfl rfl rfl (Nat.le_of_ble_eq_true rfl) (by first | decide | omega) ?_
      refine w_if_ne (tgt := 123) dX10_families_69 (by decide) (fun c_69 => absurd c_69 (fun q => q rfl)) (fun c_69 => ?_)
      refine w_aload_n dX10_families_72 rfl ?_
      refine w_getR dX10_families_73 f_X10_19 (by first | assumption | rfl) rfl rfl ?_
      refine w_iconst (v := 0) dX10_families_76 (by decide) ?_
      refine w_iald (j := 0) dX10_families_77 (by first | assumption | rfl) rfl rfl (by decide) (by decide) ?_
      rw [h0]
      refine w_iload dX10_families_78 rfl ?_
      refine w_callSi dX10_families_80 k_X10_82 (hha) rfl rfl rfl (Nat.le_of_ble_eq_true rfl) (by first | decide | omega) ?_
      refine w_if_eq (tgt := 123) dX10_families_83 (by decide) (fun c_83 => absurd c_83 (show ¬ zB true = 0 by decide)) (fun c_83 => ?_)
      refine w_aload_n dX10_families_86 rfl ?_
      refine w_getR dX10_families_87 f_X10_19 (by first | assumption | rfl) rfl rfl ?_
      refine w_iconst (v := 1) dX10_families_90 (by decide) ?_
      refine w_iald (j := 1) dX10_families_91 (by first | assumption | rfl) rfl rfl (by decide) (by decide) ?_
      refine w_istore dX10_families_92 (by decide) rfl ?_
      refine w_aload_n dX10_families_94 rfl ?_
      refine w_aload_n dX10_families_95 rfl ?_
      refine w_getR dX10_families_96 f_X10_19 (by first | assumption | rfl) rfl rfl ?_
      refine w_iload dX10_families_99 rfl ?_
      refine w_callVF dX10_families_101 k_X10_115 (by first | assumption | rfl) rfl (hgd) rfl rfl rfl (Nat.le_of_ble_eq_true rfl) (by first | decide | omega) (fun r_101 I_101 J_101 h_101 => ?_)
      obtain ⟨rfl, rfl, hMD, h93⟩ := h_101
      refine w_iload_n dX10_families_104 rfl ?_
      refine w_aload_n dX10_families_105 rfl ?_
      refine w_getR dX10_families_106 f_X10_19 (by first | assumption | rfl) rfl rfl ?_
      refine w_iconst (v := 1) dX10_families_109 (by decide) ?_
      refine w_iald (j := 1) dX10_families_110 (by first | assumption | rfl) rfl rfl (by decide) (by decide) ?_
      rw [h93]
      refine w_iload dX10_families_111 rfl ?_
      refine w_icmp_eq (tgt := 120) dX10_families_113 (by decide) (fun c_113 => ?_) (fun c_113 => ?_)
      · refine w_iconst (v := 0) dX10_families_120 (by decide) ?_
        refine w_iadd dX10_families_121 ?_
        refine w_istore_n dX10_families_122 (by decide) rfl ?_
        refine w_iincv (c := 1) dX10_families_123 (by decide) rfl (by decide) rfl ?_
        refine w_goto (tgt := 28) dX10_families_126 (by decide) ?_
        rw [if_pos c_113] at hR
        rw [Int32.add_zero, nI_1]
        exact ih (k + 1) _ _ _ _ I_101 (mclr m j) (by omega) (by omega) (hM.tr (hMD.mr (by decide) (by decide) (by decide))) (by rw [h93]; exact hP.die hb) (by rw [h93]; exact hR)
      · refine w_iconst (v := 1) dX10_families_116 (by decide) ?_
        refine w_goto (tgt := 121) dX10_families_117 (by decide) ?_
        refine w_iadd dX10_families_121 ?_
        refine w_istore_n dX10_families_122 (by decide) rfl ?_
        refine w_iincv (c := 1) dX10_families_123 (by decide) rfl (by decide) rfl ?_
        refine w_goto (tgt := 28) dX10_families_126 (by decide) ?_
        rw [if_neg c_113] at hR
        rw [nI_1]
        exact ih (k + 1) _ _ _ _ I_101 (mclr m j) (by omega) (by omega) (hM.tr (hMD.mr (by decide) (by decide) (by decide))) (by rw [h93]; exact hP.die hb) (by rw [h93]; exact hR)
set_option maxHeartbeats 4000000 in
set_option maxRecDepth 100000 in
theorem c_X10_families {I : Mem} {J : Lng} {N m : Nat} (hP : PW (I 92) N m) {x : Int32} {k : Nat} (hx : pin1 x 20 = some k) : q_F yX10_families cX10_families 6 (some .int) 5 [.ref 89, .int x] I J (fun r I1 J1 => r = some (.int (pfm sstep sdraw N k (tpg I) m (J 89) 0).1) ∧ J1 = upJ J 89 (pfm sstep sdraw N k (tpg I) m (J 89) 0).2 ∧ Mr MSS I I1) := by
  have hin := c_X10_in (I := upI I 89 0 0) (J := J) (v := x.toInt64) (a := 1) (b := 20)
  rw [zin_pin1 (N := 20) (by decide), hx] at hin
  obtain ⟨h1, h2, rfl⟩ := pin1_some (by decide) hx
  have hbg := c_X10_begin (I := upI I 89 0 0) (J := J)
  rw [show (upI I 89 0 0) 93 = I 93 from t0_ne (by decide), t0_92] at hbg
  refine q_Fi me_X10_families rfl (Nat.le_of_ble_eq_true rfl) ?_
  show q_w _ _ _ _ _ _ _ 0 [some (.ref 89), some (.int (nI k)), none, none, none, none] [] I J
  refine w_aload_n dX10_families_0 rfl ?_
  refine w_iconst (v := 0) dX10_families_1 (by decide) ?_
  refine w_putI dX10_families_2 f_X10_41 (by first | assumption | rfl) rfl ?_
  refine w_iload_n dX10_families_5 rfl ?_
  refine w_i2l dX10_families_6 ?_
  refine w_lconst (v := 1) dX10_families_7 (by decide) ?_
  refine w_ldc2 dX10_families_8 c_X10_179 ?_
  refine w_callSi dX10_families_11 k_X10_45 (hin) rfl rfl rfl (Nat.le_of_ble_eq_true rfl) (by first | decide | omega) ?_
  refine w_if_ne (tgt := 20) dX10_families_14 (by decide) (fun c_14 => ?_) (fun c_14 => absurd c_14 (show ¬ zB true = 0 by decide))
  refine w_aload_n dX10_families_20 rfl ?_
  refine w_callVv dX10_families_21 k_X10_127 (by first | assumption | rfl) rfl (hbg) rfl rfl rfl (Nat.le_of_ble_eq_true rfl) (by first | decide | omega) ?_
  refine w_iconst (v := 0) dX10_families_24 (by decide) ?_
  refine w_istore_n dX10_families_25 (by decide) rfl ?_
  refine w_iconst (v := 0) dX10_families_26 (by decide) ?_
  refine w_istore_n dX10_families_27 (by decide) rfl ?_
  have h93 : (upR (upI I 89 0 0) 93 (cpy (I 93) (I 92) 0 0 22)) 93 = tpg I := upR_t
  refine w_show (L2 := _) (st2 := _) (I2 := _) (J2 := upJ J 89 (J 89)) ?_ rfl rfl rfl upJ_id
  exact l_X10_families (st := sstep) (dr := sdraw) (fun _ => rfl) (fun _ => rfl) h2 hP.1 k 0 0 (J 89) _ _ _ m rfl (Nat.zero_le _) ((Mr.rf.f (by decide)).ur (by decide) (by decide)) (by rw [h93]; exact hP.cp (fun q hq => tpg_k hq)) (by rw [h93])
