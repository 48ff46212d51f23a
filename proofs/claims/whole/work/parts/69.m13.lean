theorem dok_lt {m : Nat} : ∀ (r rest s : Nat), dok m r rest s = true → rest < 10 ^ r
  | 0, rest, s, h => by
    have : decide (rest = 0) = true := h
    simp at this
    rw [this]; decide
  | r + 1, rest, s, h => by
    unfold dok at h
    split at h
    · have := dok_lt r _ _ h
      rw [Nat.pow_succ]; omega
    · cases h
theorem dal_none {m N x : Nat} (hN : N ≤ 7) (hm : m < 2 ^ N) (hx : x < 10) (h : pin (nI x - 1) N = none) : dal m x = false := by
  unfold dal
  cases x with
  | zero => rfl
  | succ x =>
    rw [nI_pred] at h
    rw [show x + 1 - 1 = x by omega]
    cases hb : m.testBit x with
    | false => rw [Bool.and_false]
    | true => rw [pin_nI (by omega) (p2_bit hm hb)] at h; cases h
theorem dal_some {m N x j : Nat} (hN : N ≤ 7) (hx : x < 10) (h : pin (nI x - 1) N = some j) : j < N ∧ nI x - 1 = nI j ∧ x = j + 1 ∧ dal m x = m.testBit j := by
  obtain ⟨hj, e⟩ := pin_some (by omega) h
  cases x with
  | zero =>
    have h2 : ∀ j, j < 7 → ¬ nI 0 - 1 = nI j := by decide
    exact absurd e (h2 j (by omega))
  | succ x =>
    have e2 := e
    rw [nI_pred] at e2
    have := nI_inj (by omega) (by omega) e2
    subst this
    refine ⟨hj, e, rfl, ?_⟩
    unfold dal
    rw [show x + 1 - 1 = x by omega]; simp
theorem e_div {e i : Nat} (he : e < 2 ^ 31) (hi : i < 5) : nI e / nI (10 ^ i) = nI (e / 10 ^ i) := by
  have : ∀ i, i < 5 → 0 < 10 ^ i ∧ 10 ^ i < 2 ^ 31 := by decide
  exact pk_div he (this i hi).1 (this i hi).2
theorem e_ne {i : Nat} (hi : i < 5) : ¬ nI (10 ^ i) = 0 := by
  have : ∀ i, i < 5 → ¬ nI (10 ^ i) = 0 := by decide
  exact this i hi
set_option maxHeartbeats 4000000 in
set_option maxRecDepth 100000 in
theorem l_nd_f {I : Mem} {J : Lng} {n e : Nat} {B : Bool} (hB : B = false) {s i : Int32} {x6 : Option Value} : q_w yX10_noDeaths.cls yX10_noDeaths.name cX10_noDeaths 7 .ireturn 2 (fun st I1 J1 => st = [.int (zB (!B))] ∧ I1 = I ∧ J1 = J) 40 [some (.ref 89), some (.int (nI n)), some (.int (nI e)), some (.int (s)), some (.int (0)), some (.int (i)), x6] [] (I) (J) := by
  subst hB
  refine w_iload dX10_noDeaths_40 rfl ?_
  refine w_iload_n dX10_noDeaths_42 rfl ?_
  refine w_icmp_ge (tgt := 128) dX10_noDeaths_43 (by decide) (fun c_43 => ?_) (fun c_43 => ?_)
  · refine w_iload dX10_noDeaths_128 rfl ?_
    refine w_if_ne (tgt := 137) dX10_noDeaths_130 (by decide) (fun c_130 => absurd c_130 (fun q => q rfl)) (fun c_130 => ?_)
    refine w_iconst (v := 1) dX10_noDeaths_133 (by decide) ?_
    refine w_goto (tgt := 138) dX10_noDeaths_134 (by decide) ?_
    exact w_ret dX10_noDeaths_138 ⟨rfl, rfl, rfl⟩
  · refine w_iload dX10_noDeaths_46 rfl ?_
    refine w_if_eq (tgt := 128) dX10_noDeaths_48 (by decide) (fun c_48 => ?_) (fun c_48 => absurd rfl c_48)
    refine w_iload dX10_noDeaths_128 rfl ?_
    refine w_if_ne (tgt := 137) dX10_noDeaths_130 (by decide) (fun c_130 => absurd c_130 (fun q => q rfl)) (fun c_130 => ?_)
    refine w_iconst (v := 1) dX10_noDeaths_133 (by decide) ?_
    refine w_goto (tgt := 138) dX10_noDeaths_134 (by decide) ?_
    exact w_ret dX10_noDeaths_138 ⟨rfl, rfl, rfl⟩
set_option maxHeartbeats 4000000 in
set_option maxRecDepth 100000 in
theorem l_nd {I : Mem} {J : Lng} {N m n e : Nat} (hP : PW (I 92) N m) (hn : n < 5) (he : e < 2 ^ 31) (hen : e < 10 ^ n) {B : Bool} : ∀ (r i s : Nat) (x6 : Option Value), n - i = r → i ≤ n → s < 128 → dok m r (e / 10 ^ i) s = B → q_w yX10_noDeaths.cls yX10_noDeaths.name cX10_noDeaths 7 .ireturn 2 (fun st I1 J1 => st = [.int (zB (!B))] ∧ I1 = I ∧ J1 = J) 40 [some (.ref 89), some (.int (nI n)), some (.int (nI e)), some (.int (nI s)), some (.int (1)), some (.int (nI i)), x6] [] (I) (J) := by
  have h7 := hP.2.1
  have hm := p2_128 h7 hP.2.2.2.1
  have h0 : I 92 0 = nI m := hP.2.2.1
  intro r
  induction r with
  | zero =>
    intro i s x6 hr hi hs hB
    obtain rfl : i = n := by omega
    have hB2 : B = true := by
      rw [← hB]
      show decide (e / 10 ^ i = 0) = true
      rw [Nat.div_eq_of_lt hen]; rfl
    subst hB2
    refine w_iload dX10_noDeaths_40 rfl ?_
    refine w_iload_n dX10_noDeaths_42 rfl ?_
    refine w_icmp_ge (tgt := 128) dX10_noDeaths_43 (by decide) (fun c_43 => ?_) (fun c_43 => absurd (Int32.le_refl _) c_43)
    refine w_iload dX10_noDeaths_128 rfl ?_
    refine w_if_ne (tgt := 137) dX10_noDeaths_130 (by decide) (fun c_130 => ?_) (fun c_130 => absurd c_130 (by decide))
    refine w_iconst (v := 0) dX10_noDeaths_137 (by decide) ?_
    exact w_ret dX10_noDeaths_138 ⟨rfl, rfl, rfl⟩
  | succ r ih =>
    intro i s x6 hr hi hs hB
    have hx : e / 10 ^ i % 10 < 10 := Nat.mod_lt _ (by decide)
    have hpw := c_X10_power (I := I) (J := J) (b := 10) (e := i) (by omega)
    have hnp := c_X10_noPerson (I := I) (J := J) (N := N) hP.1 h7 (p := nI (e / 10 ^ i % 10) - 1)
    have hstep : dok m (r + 1) (e / 10 ^ i) s = if (dal m (e / 10 ^ i % 10) && !s.testBit (e / 10 ^ i % 10 - 1)) = true then dok m r (e / 10 ^ i / 10) (mset s (e / 10 ^ i % 10 - 1)) else false := rfl
    rw [hstep] at hB
    cases hpi : pin (nI (e / 10 ^ i % 10) - 1) N with
    | none =>
      rw [hpi] at hnp
      rw [dal_none h7 hP.2.2.2.1 hx hpi] at hB
      have hB2 : B = false := hB.symm
      refine w_iload dX10_noDeaths_40 rfl ?_
      refine w_iload_n dX10_noDeaths_42 rfl ?_
      refine w_icmp_ge (tgt := 128) dX10_noDeaths_43 (by decide) (fun c_43 => absurd c_43 (nI_ge (by omega) (by omega))) (fun c_43 => ?_)
      refine w_iload dX10_noDeaths_46 rfl ?_
      refine w_if_eq (tgt := 128) dX10_noDeaths_48 (by decide) (fun c_48 => absurd c_48 (by decide)) (fun c_48 => ?_)
      refine w_iload_n dX10_noDeaths_51 rfl ?_
      refine w_bipush (v := 10) dX10_noDeaths_52 (by decide) ?_
      refine w_iload dX10_noDeaths_54 rfl ?_
      refine w_callSi dX10_noDeaths_56 k_X10_136 (hpw) rfl rfl rfl (Nat.le_of_ble_eq_true rfl) (by first | decide | omega) ?_
      refine w_idiv dX10_noDeaths_59 (e_ne (by omega)) ?_
      rw [e_div he (by omega)]
      refine w_bipush (v := 10) dX10_noDeaths_60 (by decide) ?_
      refine w_irem dX10_noDeaths_62 (by decide) ?_
      rw [rem10 (Nat.lt_of_le_of_lt (Nat.div_le_self _ _) he)]
      refine w_iconst (v := 1) dX10_noDeaths_63 (by decide) ?_
      refine w_isub dX10_noDeaths_64 ?_
      refine w_istore dX10_noDeaths_65 (by decide) rfl ?_
      refine w_aload_n dX10_noDeaths_67 rfl ?_
      refine w_iload dX10_noDeaths_68 rfl ?_
      refine w_callVi dX10_noDeaths_70 k_X10_104 (by first | assumption | rfl) rfl (hnp) rfl rfl rfl (Nat.le_of_ble_eq_true rfl) (by first | decide | omega) ?_
      refine w_if_ne (tgt := 103) dX10_noDeaths_73 (by decide) (fun c_73 => ?_) (fun c_73 => absurd c_73 (show ¬ zB true = 0 by decide))
      refine w_iconst (v := 0) dX10_noDeaths_103 (by decide) ?_
      refine w_istore dX10_noDeaths_104 (by decide) rfl ?_
      refine w_iload_n dX10_noDeaths_106 rfl ?_
      refine w_iload dX10_noDeaths_107 rfl ?_
      refine w_if_eq (tgt := 119) dX10_noDeaths_109 (by decide) (fun c_109 => ?_) (fun c_109 => absurd rfl c_109)
      refine w_iconst (v := 0) dX10_noDeaths_119 (by decide) ?_
      refine w_ior dX10_noDeaths_120 ?_
      refine w_istore_n dX10_noDeaths_121 (by decide) rfl ?_
      refine w_iincv (c := 1) dX10_noDeaths_122 (by decide) rfl (by decide) rfl ?_
      refine w_goto (tgt := 40) dX10_noDeaths_125 (by decide) ?_
      exact l_nd_f hB2
    | some j =>
      rw [hpi] at hnp
      obtain ⟨hj, ej, exj, ed⟩ := dal_some (m := m) h7 hx hpi
      rw [ed, exj, show j + 1 - 1 = j by omega] at hB
      have hl := c_X10_has (I := I) (J := J) (s := nI m) (k := nI j)
      rw [mI_bit m hm j (by omega), ← ej] at hl
      have hsb := c_X10_has (I := I) (J := J) (s := nI s) (k := nI j)
      rw [mI_bit s hs j (by omega), ← ej] at hsb
      refine w_iload dX10_noDeaths_40 rfl ?_
      refine w_iload_n dX10_noDeaths_42 rfl ?_
      refine w_icmp_ge (tgt := 128) dX10_noDeaths_43 (by decide) (fun c_43 => absurd c_43 (nI_ge (by omega) (by omega))) (fun c_43 => ?_)
      refine w_iload dX10_noDeaths_46 rfl ?_
      refine w_if_eq (tgt := 128) dX10_noDeaths_48 (by decide) (fun c_48 => absurd c_48 (by decide)) (fun c_48 => ?_)
      refine w_iload_n dX10_noDeaths_51 rfl ?_
      refine w_bipush (v := 10) dX10_noDeaths_52 (by decide) ?_
      refine w_iload dX10_noDeaths_54 rfl ?_
      refine w_callSi dX10_noDeaths_56 k_X10_136 (hpw) rfl rfl rfl (Nat.le_of_ble_eq_true rfl) (by first | decide | omega) ?_
      refine w_idiv dX10_noDeaths_59 (e_ne (by omega)) ?_
      rw [e_div he (by omega)]
      refine w_bipush (v := 10) dX10_noDeaths_60 (by decide) ?_
      refine w_irem dX10_noDeaths_62 (by decide) ?_
      rw [rem10 (Nat.lt_of_le_of_lt (Nat.div_le_self _ _) he)]
      refine w_iconst (v := 1) dX10_noDeaths_63 (by decide) ?_
      refine w_isub dX10_noDeaths_64 ?_
      refine w_istore dX10_noDeaths_65 (by decide) rfl ?_
      refine w_aload_n dX10_noDeaths_67 rfl ?_
      refine w_iload dX10_noDeaths_68 rfl ?_
      refine w_callVi dX10_noDeaths_70 k_X10_104 (by first | assumption | rfl) rfl (hnp) rfl rfl rfl (Nat.le_of_ble_eq_true rfl) (by first | decide | omega) ?_
      refine w_if_ne (tgt := 103) dX10_noDeaths_73 (by decide) (fun c_73 => absurd c_73 (fun q => q rfl)) (fun c_73 => ?_)
      refine w_aload_n dX10_noDeaths_76 rfl ?_
      refine w_getR dX10_noDeaths_77 f_X10_16 (by first | assumption | rfl) rfl rfl ?_
      refine w_iconst (v := 0) dX10_noDeaths_80 (by decide) ?_
      refine w_iald (j := 0) dX10_noDeaths_81 (by first | assumption | rfl) rfl rfl (by decide) (by decide) ?_
      rw [h0]
      refine w_iload dX10_noDeaths_82 rfl ?_
      refine w_callSi dX10_noDeaths_84 k_X10_82 (hl) rfl rfl rfl (Nat.le_of_ble_eq_true rfl) (by first | decide | omega) ?_
      refine w_if_eq (tgt := 103) dX10_noDeaths_87 (by decide) (fun c_87 => ?_) (fun c_87 => ?_)
      · refine w_iconst (v := 0) dX10_noDeaths_103 (by decide) ?_
        refine w_istore dX10_noDeaths_104 (by decide) rfl ?_
        refine w_iload_n dX10_noDeaths_106 rfl ?_
        refine w_iload dX10_noDeaths_107 rfl ?_
        refine w_if_eq (tgt := 119) dX10_noDeaths_109 (by decide) (fun c_109 => ?_) (fun c_109 => absurd rfl c_109)
        refine w_iconst (v := 0) dX10_noDeaths_119 (by decide) ?_
        refine w_ior dX10_noDeaths_120 ?_
        refine w_istore_n dX10_noDeaths_121 (by decide) rfl ?_
        refine w_iincv (c := 1) dX10_noDeaths_122 (by decide) rfl (by decide) rfl ?_
        refine w_goto (tgt := 40) dX10_noDeaths_125 (by decide) ?_
        have hb : m.testBit j = false := zB_eq0.mp c_87
        rw [hb] at hB
        exact l_nd_f hB.symm
      · refine w_iload_n dX10_noDeaths_90 rfl ?_
        refine w_iload dX10_noDeaths_91 rfl ?_
        refine w_callSi dX10_noDeaths_93 k_X10_82 (hsb) rfl rfl rfl (Nat.le_of_ble_eq_true rfl) (by first | decide | omega) ?_
        refine w_if_ne (tgt := 103) dX10_noDeaths_96 (by decide) (fun c_96 => ?_) (fun c_96 => ?_)
        · refine w_iconst (v := 0) dX10_noDeaths_103 (by decide) ?_
          refine w_istore dX10_noDeaths_104 (by decide) rfl ?_
          refine w_iload_n dX10_noDeaths_106 rfl ?_
          refine w_iload dX10_noDeaths_107 rfl ?_
          refine w_if_eq (tgt := 119) dX10_noDeaths_109 (by decide) (fun c_109 => ?_) (fun c_109 => absurd rfl c_109)
          refine w_iconst (v := 0) dX10_noDeaths_119 (by decide) ?_
          refine w_ior dX10_noDeaths_120 ?_
          refine w_istore_n dX10_noDeaths_121 (by decide) rfl ?_
          refine w_iincv (c := 1) dX10_noDeaths_122 (by decide) rfl (by decide) rfl ?_
          refine w_goto (tgt := 40) dX10_noDeaths_125 (by decide) ?_
          have hb : s.testBit j = true := by simpa [zB_eq0] using c_96
          rw [hb, Bool.not_true, Bool.and_false] at hB
          exact l_nd_f hB.symm
        · refine w_iconst (v := 1) dX10_noDeaths_99 (by decide) ?_
          refine w_goto (tgt := 104) dX10_noDeaths_100 (by decide) ?_
          refine w_istore dX10_noDeaths_104 (by decide) rfl ?_
          refine w_iload_n dX10_noDeaths_106 rfl ?_
          refine w_iload dX10_noDeaths_107 rfl ?_
          refine w_if_eq (tgt := 119) dX10_noDeaths_109 (by decide) (fun c_109 => absurd c_109 (by decide)) (fun c_109 => ?_)
          refine w_iconst (v := 1) dX10_noDeaths_112 (by decide) ?_
          refine w_iload dX10_noDeaths_113 rfl ?_
          refine w_ishl dX10_noDeaths_115 ?_
          refine w_goto (tgt := 120) dX10_noDeaths_116 (by decide) ?_
          refine w_ior dX10_noDeaths_120 ?_
          refine w_istore_n dX10_noDeaths_121 (by decide) rfl ?_
          refine w_iincv (c := 1) dX10_noDeaths_122 (by decide) rfl (by decide) rfl ?_
          refine w_goto (tgt := 40) dX10_noDeaths_125 (by decide) ?_
          have hb : m.testBit j = true := by simpa [zB_eq0] using c_87
          have hb2 : s.testBit j = false := zB_eq0.mp c_96
          rw [hb, hb2] at hB
          rw [ej, mI_set s hs j (by omega), nI_1]
          exact ih (i + 1) (mset s j) _ (by omega) (by omega) (mset_lt s hs j (by omega)) (by rw [Nat.pow_succ, ← Nat.div_div_eq_div_mul]; exact hB)
set_option maxHeartbeats 4000000 in
set_option maxRecDepth 100000 in
theorem c_X10_noDeaths_b {I : Mem} {J : Lng} {x d : Int32} (hx : pin1 x 4 = none) : q_E yX10_noDeaths cX10_noDeaths 7 (some .boolean) 2 [.ref 89, .int x, .int d] I J (some (.int (1))) (I) (J) := by
  have h1 := c_X10_in (I := I) (J := J) (v := x.toInt64) (a := 1) (b := 4)
  rw [zin_pin1 (N := 4) (by decide), hx] at h1
  refine q_Ez (Or.inr rfl) me_X10_noDeaths rfl (Nat.le_of_ble_eq_true rfl) ?_
  show q_w _ _ _ _ _ _ _ 0 [some (.ref 89), some (.int x), some (.int d), none, none, none, none] [] I J
  refine w_iload_n dX10_noDeaths_0 rfl ?_
  refine w_i2l dX10_noDeaths_1 ?_
  refine w_lconst (v := 1) dX10_noDeaths_2 (by decide) ?_
  refine w_ldc2 dX10_noDeaths_3 c_X10_139 ?_
  refine w_callSi dX10_noDeaths_6 k_X10_45 (h1) rfl rfl rfl (Nat.le_of_ble_eq_true rfl) (by first | decide | omega) ?_
  refine w_if_eq (tgt := 30) dX10_noDeaths_9 (by decide) (fun c_9 => ?_) (fun c_9 => absurd (rfl : zB false = 0) c_9)
  refine w_iconst (v := 1) dX10_noDeaths_30 (by decide) ?_
  exact w_ret dX10_noDeaths_31 ⟨rfl, rfl, rfl⟩
theorem ten_m1 : ∀ n, n < 5 → (nI (10 ^ n) - 1).toInt64.toInt + 1 = ((10 ^ n : Nat) : Int) := by decide
set_option maxHeartbeats 4000000 in
set_option maxRecDepth 100000 in
theorem c_X10_noDeaths_d {I : Mem} {J : Lng} {x d : Int32} {k : Nat} (hx : pin1 x 4 = some k) (hd : pin d (10 ^ k) = none) : q_E yX10_noDeaths cX10_noDeaths 7 (some .boolean) 2 [.ref 89, .int x, .int d] I J (some (.int (1))) (I) (J) := by
  have h1 := c_X10_in (I := I) (J := J) (v := x.toInt64) (a := 1) (b := 4)
  rw [zin_pin1 (N := 4) (by decide), hx] at h1
  obtain ⟨hk1, hk4, rfl⟩ := pin1_some (by decide) hx
  have hpo := c_X10_power (I := I) (J := J) (b := 10) (e := k) (by omega)
  have h2 := c_X10_in (I := I) (J := J) (v := d.toInt64) (a := 0) (b := (nI (10 ^ k) - 1).toInt64)
  rw [zin_pin (ten_m1 k (by omega))] at h2
  rw [hd] at h2
  refine q_Ez (Or.inr rfl) me_X10_noDeaths rfl (Nat.le_of_ble_eq_true rfl) ?_
  show q_w _ _ _ _ _ _ _ 0 [some (.ref 89), some (.int (nI k)), some (.int d), none, none, none, none] [] I J
  refine w_iload_n dX10_noDeaths_0 rfl ?_
  refine w_i2l dX10_noDeaths_1 ?_
  refine w_lconst (v := 1) dX10_noDeaths_2 (by decide) ?_
  refine w_ldc2 dX10_noDeaths_3 c_X10_139 ?_
  refine w_callSi dX10_noDeaths_6 k_X10_45 (h1) rfl rfl rfl (Nat.le_of_ble_eq_true rfl) (by first | decide | omega) ?_
  refine w_if_eq (tgt := 30) dX10_noDeaths_9 (by decide) (fun c_9 => absurd c_9 (show ¬ zB true = 0 by decide)) (fun c_9 => ?_)
  refine w_iload_n dX10_noDeaths_12 rfl ?_
  refine w_i2l dX10_noDeaths_13 ?_
  refine w_lconst (v := 0) dX10_noDeaths_14 (by decide) ?_
  refine w_bipush (v := 10) dX10_noDeaths_15 (by decide) ?_
  refine w_iload_n dX10_noDeaths_17 rfl ?_
  refine w_callSi dX10_noDeaths_18 k_X10_136 (hpo) rfl rfl rfl (Nat.le_of_ble_eq_true rfl) (by first | decide | omega) ?_
  refine w_iconst (v := 1) dX10_noDeaths_21 (by decide) ?_
  refine w_isub dX10_noDeaths_22 ?_
  refine w_i2l dX10_noDeaths_23 ?_
  refine w_callSi dX10_noDeaths_24 k_X10_45 (h2) rfl rfl rfl (Nat.le_of_ble_eq_true rfl) (by first | decide | omega) ?_
  refine w_if_ne (tgt := 32) dX10_noDeaths_27 (by decide) (fun c_27 => absurd c_27 (fun q => q rfl)) (fun c_27 => ?_)
  refine w_iconst (v := 1) dX10_noDeaths_30 (by decide) ?_
  exact w_ret dX10_noDeaths_31 ⟨rfl, rfl, rfl⟩
set_option maxHeartbeats 4000000 in
set_option maxRecDepth 100000 in
theorem c_X10_noDeaths {I : Mem} {J : Lng} {N m : Nat} (hP : PW (I 92) N m) {x d : Int32} {k e : Nat} (hx : pin1 x 4 = some k) (hd : pin d (10 ^ k) = some e) : q_E yX10_noDeaths cX10_noDeaths 7 (some .boolean) 2 [.ref 89, .int x, .int d] I J (some (.int (zB (!dok m k e 0)))) (I) (J) := by
  have h1 := c_X10_in (I := I) (J := J) (v := x.toInt64) (a := 1) (b := 4)
  rw [zin_pin1 (N := 4) (by decide), hx] at h1
  obtain ⟨hk1, hk4, rfl⟩ := pin1_some (by decide) hx
  have hpo := c_X10_power (I := I) (J := J) (b := 10) (e := k) (by omega)
  have h2 := c_X10_in (I := I) (J := J) (v := d.toInt64) (a := 0) (b := (nI (10 ^ k) - 1).toInt64)
  rw [zin_pin (ten_m1 k (by omega))] at h2
  rw [hd] at h2
  have h10 := ten_le k (by omega)
  obtain ⟨hek, rfl⟩ := pin_some (by omega) hd
  refine q_Ez (zB_01 _) me_X10_noDeaths rfl (Nat.le_of_ble_eq_true rfl) ?_
  show q_w _ _ _ _ _ _ _ 0 [some (.ref 89), some (.int (nI k)), some (.int (nI e)), none, none, none, none] [] I J
  refine w_iload_n dX10_noDeaths_0 rfl ?_
  refine w_i2l dX10_noDeaths_1 ?_
  refine w_lconst (v := 1) dX10_noDeaths_2 (by decide) ?_
  refine w_ldc2 dX10_noDeaths_3 c_X10_139 ?_
  refine w_callSi dX10_noDeaths_6 k_X10_45 (h1) rfl rfl rfl (Nat.le_of_ble_eq_true rfl) (by first | decide | omega) ?_
  refine w_if_eq (tgt := 30) dX10_noDeaths_9 (by decide) (fun c_9 => absurd c_9 (show ¬ zB true = 0 by decide)) (fun c_9 => ?_)
  refine w_iload_n dX10_noDeaths_12 rfl ?_
  refine w_i2l dX10_noDeaths_13 ?_
  refine w_lconst (v := 0) dX10_noDeaths_14 (by decide) ?_
  refine w_bipush (v := 10) dX10_noDeaths_15 (by decide) ?_
  refine w_iload_n dX10_noDeaths_17 rfl ?_
  refine w_callSi dX10_noDeaths_18 k_X10_136 (hpo) rfl rfl rfl (Nat.le_of_ble_eq_true rfl) (by first | decide | omega) ?_
  refine w_iconst (v := 1) dX10_noDeaths_21 (by decide) ?_
  refine w_isub dX10_noDeaths_22 ?_
  refine w_i2l dX10_noDeaths_23 ?_
  refine w_callSi dX10_noDeaths_24 k_X10_45 (h2) rfl rfl rfl (Nat.le_of_ble_eq_true rfl) (by first | decide | omega) ?_
  refine w_if_ne (tgt := 32) dX10_noDeaths_27 (by decide) (fun c_27 => ?_) (fun c_27 => absurd c_27 (show ¬ zB true = 0 by decide))
  refine w_iconst (v := 0) dX10_noDeaths_32 (by decide) ?_
  refine w_istore_n dX10_noDeaths_33 (by decide) rfl ?_
  refine w_iconst (v := 1) dX10_noDeaths_34 (by decide) ?_
  refine w_istore dX10_noDeaths_35 (by decide) rfl ?_
  refine w_iconst (v := 0) dX10_noDeaths_37 (by decide) ?_
  refine w_istore dX10_noDeaths_38 (by decide) rfl ?_
  exact l_nd hP (by omega) (by omega) hek k 0 0 _ rfl (Nat.zero_le _) (by decide) (by rw [Nat.pow_zero, Nat.div_one])
