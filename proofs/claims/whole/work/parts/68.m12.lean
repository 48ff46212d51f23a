def mlu (s : Nat) : Nat → Nat → Nat → Nat
  | 0, _, u => u
  | r + 1, k, u => mlu s r (k + 1) (u * (10 - (s + k)))
theorem mlu_0 (s : Nat) : ∀ r k, mlu s r k 0 = 0
  | 0, k => rfl
  | r + 1, k => by
    show mlu s r (k + 1) (0 * (10 - (s + k))) = 0
    rw [Nat.zero_mul]; exact mlu_0 s r (k + 1)
theorem mlu_le (s : Nat) : ∀ r k u, mlu s r k u ≤ u * 10 ^ r
  | 0, k, u => by show u ≤ u * 1; omega
  | r + 1, k, u => by
    show mlu s r (k + 1) (u * (10 - (s + k))) ≤ u * 10 ^ (r + 1)
    refine Nat.le_trans (mlu_le s r (k + 1) _) ?_
    rw [Nat.pow_succ, Nat.mul_assoc, Nat.mul_comm (10 ^ r) 10]
    exact Nat.mul_le_mul_left u (Nat.mul_le_mul_right _ (by omega))
set_option maxHeartbeats 4000000 in
set_option maxRecDepth 100000 in
theorem c_X10_lender_b {I : Mem} {J : Lng} {n x : Int32} {u : Bool} (hb : pin1 n 5 = none ∨ pin x 10 = none) : q_E yX10_lender cX10_lender 8 (some .int) 2 [.ref 89, .int n, .int x, .int (zB u)] I J (some (.int (-2))) (upI I 89 0 0) (J) := by
  have h1 := c_X10_in (I := upI I 89 0 0) (J := J) (v := n.toInt64) (a := 1) (b := 5)
  rw [zin_pin1 (N := 5) (by decide)] at h1
  have h2 := c_X10_in (I := upI I 89 0 0) (J := J) (v := x.toInt64) (a := 0) (b := 9)
  rw [zin_pin (N := 10) (by decide)] at h2
  refine q_Ei me_X10_lender rfl (Nat.le_of_ble_eq_true rfl) ?_
  show q_w _ _ _ _ _ _ _ 0 [some (.ref 89), some (.int n), some (.int x), some (.int (zB u)), none, none, none, none] [] I J
  refine w_aload_n dX10_lender_0 rfl ?_
  refine w_iconst (v := 0) dX10_lender_1 (by decide) ?_
  refine w_putI dX10_lender_2 f_X10_41 (by first | assumption | rfl) rfl ?_
  refine w_iload_n dX10_lender_5 rfl ?_
  refine w_i2l dX10_lender_6 ?_
  refine w_lconst (v := 1) dX10_lender_7 (by decide) ?_
  refine w_ldc2 dX10_lender_8 c_X10_173 ?_
  refine w_callSi dX10_lender_11 k_X10_45 (h1) rfl rfl rfl (Nat.le_of_ble_eq_true rfl) (by first | decide | omega) ?_
  refine w_if_eq (tgt := 29) dX10_lender_14 (by decide) (fun c_14 => ?_) (fun c_14 => ?_)
  · refine w_bipush (v := (-2)) dX10_lender_29 (by decide) ?_
    exact w_ret dX10_lender_31 ⟨rfl, rfl, rfl⟩
  · refine w_iload_n dX10_lender_17 rfl ?_
    refine w_i2l dX10_lender_18 ?_
    refine w_lconst (v := 0) dX10_lender_19 (by decide) ?_
    refine w_ldc2 dX10_lender_20 c_X10_119 ?_
    refine w_callSi dX10_lender_23 k_X10_45 (h2) rfl rfl rfl (Nat.le_of_ble_eq_true rfl) (by first | decide | omega) ?_
    refine w_if_ne (tgt := 32) dX10_lender_26 (by decide) (fun c_26 => ?_) (fun c_26 => ?_)
    · exfalso
      rcases hb with hb | hb
      · exact c_14 (by rw [hb]; rfl)
      · exact c_26 (by rw [hb]; rfl)
    · refine w_bipush (v := (-2)) dX10_lender_29 (by decide) ?_
      exact w_ret dX10_lender_31 ⟨rfl, rfl, rfl⟩
set_option maxHeartbeats 4000000 in
set_option maxRecDepth 100000 in
theorem c_X10_lender_l {I : Mem} {J : Lng} {n x : Int32} {u : Bool} {k y : Nat} (hn : pin1 n 5 = some k) (hx : pin x 10 = some y) (hh : I 92 1 = -9) : q_E yX10_lender cX10_lender 8 (some .int) 2 [.ref 89, .int n, .int x, .int (zB u)] I J (some (.int (nI (mfr 0 1 u)))) (upI I 89 0 0) (J) := by
  have h1 := c_X10_in (I := upI I 89 0 0) (J := J) (v := n.toInt64) (a := 1) (b := 5)
  rw [zin_pin1 (N := 5) (by decide)] at h1
  have h2 := c_X10_in (I := upI I 89 0 0) (J := J) (v := x.toInt64) (a := 0) (b := 9)
  rw [zin_pin (N := 10) (by decide)] at h2
  rw [hn] at h1
  rw [hx] at h2
  obtain ⟨hk1, hk5, rfl⟩ := pin1_some (by decide) hn
  obtain ⟨hy, rfl⟩ := pin_some (by decide) hx
  refine q_Ei me_X10_lender rfl (Nat.le_of_ble_eq_true rfl) ?_
  show q_w _ _ _ _ _ _ _ 0 [some (.ref 89), some (.int (nI k)), some (.int (nI y)), some (.int (zB u)), none, none, none, none] [] I J
  refine w_aload_n dX10_lender_0 rfl ?_
  refine w_iconst (v := 0) dX10_lender_1 (by decide) ?_
  refine w_putI dX10_lender_2 f_X10_41 (by first | assumption | rfl) rfl ?_
  refine w_iload_n dX10_lender_5 rfl ?_
  refine w_i2l dX10_lender_6 ?_
  refine w_lconst (v := 1) dX10_lender_7 (by decide) ?_
  refine w_ldc2 dX10_lender_8 c_X10_173 ?_
  refine w_callSi dX10_lender_11 k_X10_45 (h1) rfl rfl rfl (Nat.le_of_ble_eq_true rfl) (by first | decide | omega) ?_
  refine w_if_eq (tgt := 29) dX10_lender_14 (by decide) (fun c_14 => absurd c_14 (show ¬ zB true = 0 by decide)) (fun c_14 => ?_)
  refine w_iload_n dX10_lender_17 rfl ?_
  refine w_i2l dX10_lender_18 ?_
  refine w_lconst (v := 0) dX10_lender_19 (by decide) ?_
  refine w_ldc2 dX10_lender_20 c_X10_119 ?_
  refine w_callSi dX10_lender_23 k_X10_45 (h2) rfl rfl rfl (Nat.le_of_ble_eq_true rfl) (by first | decide | omega) ?_
  refine w_if_ne (tgt := 32) dX10_lender_26 (by decide) (fun c_26 => ?_) (fun c_26 => absurd c_26 (show ¬ zB true = 0 by decide))
  refine w_aload_n dX10_lender_32 rfl ?_
  refine w_getR dX10_lender_33 f_X10_16 (by first | assumption | rfl) rfl rfl ?_
  refine w_iconst (v := 1) dX10_lender_36 (by decide) ?_
  refine w_iald (j := 1) dX10_lender_37 (by first | assumption | rfl) rfl rfl (by decide) (by decide) ?_
  rw [t0_92]
  refine w_bipush (v := (-9)) dX10_lender_38 (by decide) ?_
  refine w_icmp_ne (tgt := 47) dX10_lender_40 (by decide) (fun c_40 => absurd c_40 (fun q => q hh)) (fun c_40 => ?_)
  refine w_iconst (v := 0) dX10_lender_43 (by decide) ?_
  refine w_goto (tgt := 48) dX10_lender_44 (by decide) ?_
  refine w_istore dX10_lender_48 (by decide) rfl ?_
  refine w_aload_n dX10_lender_50 rfl ?_
  refine w_getR dX10_lender_51 f_X10_16 (by first | assumption | rfl) rfl rfl ?_
  refine w_iconst (v := 1) dX10_lender_54 (by decide) ?_
  refine w_iald (j := 1) dX10_lender_55 (by first | assumption | rfl) rfl rfl (by decide) (by decide) ?_
  rw [t0_92]
  refine w_bipush (v := (-9)) dX10_lender_56 (by decide) ?_
  refine w_icmp_ne (tgt := 65) dX10_lender_58 (by decide) (fun c_58 => absurd c_58 (fun q => q hh)) (fun c_58 => ?_)
  refine w_iconst (v := 1) dX10_lender_61 (by decide) ?_
  refine w_goto (tgt := 71) dX10_lender_62 (by decide) ?_
  refine w_istore dX10_lender_71 (by decide) rfl ?_
  refine w_iconst (v := 0) dX10_lender_73 (by decide) ?_
  refine w_istore dX10_lender_74 (by decide) rfl ?_
  refine w_iload dX10_lender_76 rfl ?_
  refine w_iload_n dX10_lender_78 rfl ?_
  refine w_icmp_ge (tgt := 135) dX10_lender_79 (by decide) (fun c_79 => absurd c_79 (nI_ge (a := 0) (by omega) (by omega))) (fun c_79 => ?_)
  refine w_iload dX10_lender_82 rfl ?_
  refine w_if_le (tgt := 135) dX10_lender_84 (by decide) (fun c_84 => ?_) (fun c_84 => absurd (Int32.le_refl 0) c_84)
  refine w_iload dX10_lender_135 rfl ?_
  refine w_iload dX10_lender_137 rfl ?_
  refine w_iload_n dX10_lender_139 rfl ?_
  refine w_callSi dX10_lender_140 k_X10_169 (c_X10_fraction (a := 0) (b := 1) (by decide) (by decide) (by decide)) rfl rfl rfl (Nat.le_of_ble_eq_true rfl) (by first | decide | omega) ?_
  exact w_ret dX10_lender_143 ⟨rfl, rfl, rfl⟩
theorem ten_le : ∀ n, n ≤ 5 → 10 ^ n ≤ 100000 := by decide
theorem t_sub {b : Nat} (h : b ≤ 10) : (10 : Int32) - nI b = nI (10 - b) := by
  have : ∀ b, b ≤ 10 → (10 : Int32) - nI b = nI (10 - b) := by decide
  exact this b h
set_option maxHeartbeats 4000000 in
set_option maxRecDepth 100000 in
theorem l_X10_lender {I : Mem} {J : Lng} {n y h g : Nat} {u : Bool} {Z : Nat} (hn : n ≤ 5) (hy : y < 10) (hh : h < 7) (e1 : I 92 1 = nI h) (eg : I 92 (15 + h) = nI g) (hg : g < 1000) : ∀ (r k v : Nat) (x7 : Option Value), n - k = r → k ≤ n → v ≤ 10 ^ k → mlu (y + g) r k v = Z → q_w yX10_lender.cls yX10_lender.name cX10_lender 8 .ireturn 2 (fun st I1 J1 => st = [.int (nI (mfr Z (10 ^ n) u))] ∧ I1 = upI I 89 0 0 ∧ J1 = J) 76 [some (.ref 89), some (.int (nI n)), some (.int (nI y)), some (.int (zB u)), some (.int (nI v)), some (.int (nI (10 ^ n))), some (.int (nI k)), x7] [] (upI I 89 0 0) (J) := by
  have hZn : ∀ {r k v : Nat}, r + k = n → v ≤ 10 ^ k → mlu (y + g) r k v ≤ 10 ^ n := fun {r k v} hr hv => by
    refine Nat.le_trans (mlu_le _ _ _ _) ?_
    rw [← hr, Nat.pow_add, Nat.mul_comm (10 ^ r)]
    exact Nat.mul_le_mul_right _ hv
  have h10 := ten_le n hn
  have hpos : 0 < 10 ^ n := Nat.pow_pos (by decide)
  intro r
  induction r with
  | zero =>
    intro k v x7 hr hk hv hZ
    obtain rfl : k = n := by omega
    have hZ2 : v = Z := hZ
    have hfr := c_X10_fraction (I := upI I 89 0 0) (J := J) (a := v) (b := 10 ^ k) (u := u) (by omega) (by omega) hpos
    refine w_iload dX10_lender_76 rfl ?_
    refine w_iload_n dX10_lender_78 rfl ?_
    refine w_icmp_ge (tgt := 135) dX10_lender_79 (by decide) (fun c_79 => ?_) (fun c_79 => absurd (Int32.le_refl _) c_79)
    refine w_iload dX10_lender_135 rfl ?_
    refine w_iload dX10_lender_137 rfl ?_
    refine w_iload_n dX10_lender_139 rfl ?_
    refine w_callSi dX10_lender_140 k_X10_169 (hfr) rfl rfl rfl (Nat.le_of_ble_eq_true rfl) (by first | decide | omega) ?_
    exact w_ret dX10_lender_143 ⟨by rw [hZ2], rfl, rfl⟩
  | succ r ih =>
    intro k v x7 hr hk hv hZ
    have hk10 := ten_le k (by omega)
    by_cases hv0 : v = 0
    · subst hv0
      have hZ2 : 0 = Z := by rw [← hZ]; exact (mlu_0 _ _ _).symm
      have hfr := c_X10_fraction (I := upI I 89 0 0) (J := J) (a := 0) (b := 10 ^ n) (u := u) (by decide) (by omega) hpos
      refine w_iload dX10_lender_76 rfl ?_
      refine w_iload_n dX10_lender_78 rfl ?_
      refine w_icmp_ge (tgt := 135) dX10_lender_79 (by decide) (fun c_79 => absurd c_79 (nI_ge (by omega) (by omega))) (fun c_79 => ?_)
      refine w_iload dX10_lender_82 rfl ?_
      refine w_if_le (tgt := 135) dX10_lender_84 (by decide) (fun c_84 => ?_) (fun c_84 => absurd (Int32.le_refl 0) c_84)
      refine w_iload dX10_lender_135 rfl ?_
      refine w_iload dX10_lender_137 rfl ?_
      refine w_iload_n dX10_lender_139 rfl ?_
      refine w_callSi dX10_lender_140 k_X10_169 (hfr) rfl rfl rfl (Nat.le_of_ble_eq_true rfl) (by first | decide | omega) ?_
      exact w_ret dX10_lender_143 ⟨by rw [← hZ2], rfl, rfl⟩
    · have hby : nI y + nI g + nI k = nI (y + g + k) := by rw [nI_add, nI_add]
      refine w_iload dX10_lender_76 rfl ?_
      refine w_iload_n dX10_lender_78 rfl ?_
      refine w_icmp_ge (tgt := 135) dX10_lender_79 (by decide) (fun c_79 => absurd c_79 (nI_ge (by omega) (by omega))) (fun c_79 => ?_)
      refine w_iload dX10_lender_82 rfl ?_
      refine w_if_le (tgt := 135) dX10_lender_84 (by decide) (fun c_84 => absurd c_84 (nI_nle (by omega) (by omega))) (fun c_84 => ?_)
      refine w_iload_n dX10_lender_87 rfl ?_
      refine w_aload_n dX10_lender_88 rfl ?_
      refine w_getR dX10_lender_89 f_X10_16 (by first | assumption | rfl) rfl rfl ?_
      refine w_bipush (v := 15) dX10_lender_92 (by decide) ?_
      refine w_aload_n dX10_lender_94 rfl ?_
      refine w_getR dX10_lender_95 f_X10_16 (by first | assumption | rfl) rfl rfl ?_
      refine w_iconst (v := 1) dX10_lender_98 (by decide) ?_
      refine w_iald (j := 1) dX10_lender_99 (by first | assumption | rfl) rfl rfl (by decide) (by decide) ?_
      rw [t0_92, e1]
      refine w_iadd dX10_lender_100 ?_
      refine w_iald (j := (15 + h)) dX10_lender_101 (by first | assumption | rfl) rfl ix_15 (show 15 + h < 22 by omega) (by decide) ?_
      rw [t0_92, eg]
      refine w_iadd dX10_lender_102 ?_
      refine w_iload dX10_lender_103 rfl ?_
      refine w_iadd dX10_lender_105 ?_
      rw [hby]
      refine w_istore dX10_lender_106 (by decide) rfl ?_
      refine w_iload dX10_lender_108 rfl ?_
      refine w_iload dX10_lender_110 rfl ?_
      refine w_bipush (v := 10) dX10_lender_112 (by decide) ?_
      refine w_icmp_le (tgt := 121) dX10_lender_114 (by decide) (fun c_114 => ?_) (fun c_114 => ?_)
      · refine w_bipush (v := 10) dX10_lender_121 (by decide) ?_
        refine w_iload dX10_lender_123 rfl ?_
        refine w_isub dX10_lender_125 ?_
        have hle : y + g + k ≤ 10 := by
          have q := c_114
          rw [ti_le, nI_toInt (by omega), show (10 : Int32).toInt = 10 from rfl] at q
          omega
        rw [t_sub hle]
        refine w_imul dX10_lender_126 ?_
        rw [pk_mul]
        refine w_istore dX10_lender_127 (by decide) rfl ?_
        refine w_iincv (c := 1) dX10_lender_129 (by decide) rfl (by decide) rfl ?_
        refine w_goto (tgt := 76) dX10_lender_132 (by decide) ?_
        rw [nI_1]
        refine ih (k + 1) (v * (10 - (y + g + k))) _ (by omega) (by omega) ?_ hZ
        rw [Nat.pow_succ]
        exact Nat.mul_le_mul hv (by omega)
      · refine w_iconst (v := 0) dX10_lender_117 (by decide) ?_
        refine w_goto (tgt := 126) dX10_lender_118 (by decide) ?_
        have hgt : 10 < y + g + k := by
          have q := c_114
          rw [ti_le, nI_toInt (by omega), show (10 : Int32).toInt = 10 from rfl] at q
          omega
        refine w_imul dX10_lender_126 ?_
        rw [show nI v * 0 = nI (v * (10 - (y + g + k))) by rw [show 10 - (y + g + k) = 0 by omega, Nat.mul_zero]; exact Int32.mul_zero]
        refine w_istore dX10_lender_127 (by decide) rfl ?_
        refine w_iincv (c := 1) dX10_lender_129 (by decide) rfl (by decide) rfl ?_
        refine w_goto (tgt := 76) dX10_lender_132 (by decide) ?_
        rw [nI_1]
        refine ih (k + 1) (v * (10 - (y + g + k))) _ (by omega) (by omega) ?_ hZ
        rw [Nat.pow_succ]
        exact Nat.mul_le_mul hv (by omega)
set_option maxHeartbeats 4000000 in
set_option maxRecDepth 100000 in
theorem c_X10_lender {I : Mem} {J : Lng} {N m : Nat} (hP : PW (I 92) N m) {n x : Int32} {u : Bool} {k y h g : Nat} (hn : pin1 n 5 = some k) (hx : pin x 10 = some y) (hh : h < N) (e1 : I 92 1 = nI h) (eg : I 92 (15 + h) = nI g) (hg : g < 1000) : q_E yX10_lender cX10_lender 8 (some .int) 2 [.ref 89, .int n, .int x, .int (zB u)] I J (some (.int (nI (mfr (mlu (y + g) k 0 1) (10 ^ k) u)))) (upI I 89 0 0) (J) := by
  have h1 := c_X10_in (I := upI I 89 0 0) (J := J) (v := n.toInt64) (a := 1) (b := 5)
  rw [zin_pin1 (N := 5) (by decide)] at h1
  have h2 := c_X10_in (I := upI I 89 0 0) (J := J) (v := x.toInt64) (a := 0) (b := 9)
  rw [zin_pin (N := 10) (by decide)] at h2
  rw [hn] at h1
  rw [hx] at h2
  obtain ⟨hk1, hk5, rfl⟩ := pin1_some (by decide) hn
  obtain ⟨hy, rfl⟩ := pin_some (by decide) hx
  have h7 := hP.2.1
  have hpw := c_X10_power (I := upI I 89 0 0) (J := J) (b := 10) (e := k) (by omega)
  refine q_Ei me_X10_lender rfl (Nat.le_of_ble_eq_true rfl) ?_
  show q_w _ _ _ _ _ _ _ 0 [some (.ref 89), some (.int (nI k)), some (.int (nI y)), some (.int (zB u)), none, none, none, none] [] I J
  refine w_aload_n dX10_lender_0 rfl ?_
  refine w_iconst (v := 0) dX10_lender_1 (by decide) ?_
  refine w_putI dX10_lender_2 f_X10_41 (by first | assumption | rfl) rfl ?_
  refine w_iload_n dX10_lender_5 rfl ?_
  refine w_i2l dX10_lender_6 ?_
  refine w_lconst (v := 1) dX10_lender_7 (by decide) ?_
  refine w_ldc2 dX10_lender_8 c_X10_173 ?_
  refine w_callSi dX10_lender_11 k_X10_45 (h1) rfl rfl rfl (Nat.le_of_ble_eq_true rfl) (by first | decide | omega) ?_
  refine w_if_eq (tgt := 29) dX10_lender_14 (by decide) (fun c_14 => absurd c_14 (show ¬ zB true = 0 by decide)) (fun c_14 => ?_)
  refine w_iload_n dX10_lender_17 rfl ?_
  refine w_i2l dX10_lender_18 ?_
  refine w_lconst (v := 0) dX10_lender_19 (by decide) ?_
  refine w_ldc2 dX10_lender_20 c_X10_119 ?_
  refine w_callSi dX10_lender_23 k_X10_45 (h2) rfl rfl rfl (Nat.le_of_ble_eq_true rfl) (by first | decide | omega) ?_
  refine w_if_ne (tgt := 32) dX10_lender_26 (by decide) (fun c_26 => ?_) (fun c_26 => absurd c_26 (show ¬ zB true = 0 by decide))
  refine w_aload_n dX10_lender_32 rfl ?_
  refine w_getR dX10_lender_33 f_X10_16 (by first | assumption | rfl) rfl rfl ?_
  refine w_iconst (v := 1) dX10_lender_36 (by decide) ?_
  refine w_iald (j := 1) dX10_lender_37 (by first | assumption | rfl) rfl rfl (by decide) (by decide) ?_
  rw [t0_92]
  refine w_bipush (v := (-9)) dX10_lender_38 (by decide) ?_
  refine w_icmp_ne (tgt := 47) dX10_lender_40 (by decide) (fun c_40 => ?_) (fun c_40 => absurd c_40 (by rw [e1]; exact nI_ne9 (by omega)))
  refine w_iconst (v := 1) dX10_lender_47 (by decide) ?_
  refine w_istore dX10_lender_48 (by decide) rfl ?_
  refine w_aload_n dX10_lender_50 rfl ?_
  refine w_getR dX10_lender_51 f_X10_16 (by first | assumption | rfl) rfl rfl ?_
  refine w_iconst (v := 1) dX10_lender_54 (by decide) ?_
  refine w_iald (j := 1) dX10_lender_55 (by first | assumption | rfl) rfl rfl (by decide) (by decide) ?_
  rw [t0_92]
  refine w_bipush (v := (-9)) dX10_lender_56 (by decide) ?_
  refine w_icmp_ne (tgt := 65) dX10_lender_58 (by decide) (fun c_58 => ?_) (fun c_58 => absurd c_58 (by rw [e1]; exact nI_ne9 (by omega)))
  refine w_bipush (v := 10) dX10_lender_65 (by decide) ?_
  refine w_iload_n dX10_lender_67 rfl ?_
  refine w_callSi dX10_lender_68 k_X10_136 (hpw) rfl rfl rfl (Nat.le_of_ble_eq_true rfl) (by first | decide | omega) ?_
  refine w_istore dX10_lender_71 (by decide) rfl ?_
  refine w_iconst (v := 0) dX10_lender_73 (by decide) ?_
  refine w_istore dX10_lender_74 (by decide) rfl ?_
  exact l_X10_lender hk5 hy (by omega) e1 eg hg k 0 1 _ rfl (Nat.zero_le _) (Nat.le_refl _) rfl
