/-! the reference: its small methods -/
def zin (v a b : Int64) : Bool := decide (a ≤ v) && decide (v ≤ b)
theorem zin_d {p : Int32} {a b : Int64} : zin p.toInt64 a b = (decide (a.toInt ≤ p.toInt) && decide (p.toInt ≤ b.toInt)) := by
  unfold zin
  simp only [Int64.le_iff_toInt_le, Int32.toInt_toInt64]
theorem zin_pin {p : Int32} {b : Int64} {N : Nat} (h : b.toInt + 1 = N) : zin p.toInt64 0 b = (pin p N).isSome := by
  rw [zin_d, show (0 : Int64).toInt = 0 from rfl]
  unfold pin
  by_cases h1 : 0 ≤ p.toInt <;> by_cases h2 : p.toInt < N
  · rw [if_pos ⟨h1, h2⟩]; simp [h1]; omega
  · rw [if_neg (fun q => h2 q.2)]; simp; omega
  · rw [if_neg (fun q => h1 q.1)]; simp [h1]
  · rw [if_neg (fun q => h1 q.1)]; simp [h1]
theorem zin_pin1 {p : Int32} {b : Int64} {N : Nat} (h : b.toInt = N) : zin p.toInt64 1 b = (pin1 p N).isSome := by
  rw [zin_d, show (1 : Int64).toInt = 1 from rfl]
  unfold pin1
  by_cases h1 : 1 ≤ p.toInt <;> by_cases h2 : p.toInt ≤ N
  · rw [if_pos ⟨h1, h2⟩]; simp [h1]; omega
  · rw [if_neg (fun q => h2 q.2)]; simp; omega
  · rw [if_neg (fun q => h1 q.1)]; simp [h1]
  · rw [if_neg (fun q => h1 q.1)]; simp [h1]
theorem nI_m1 : ∀ N, N ≤ 7 → (nI N - 1).toInt64.toInt + 1 = N := by decide
/-- the reference's pages -/
def q_pages : List Nat := [92, 93]
theorem SH_page {t : Nat} (h : t ∈ q_pages) : SH[t]? = some (0, 22, []) := by
  have : ∀ t ∈ q_pages, SH[t]? = some (0, 22, []) := by decide
  exact this t h
theorem p92 : 92 ∈ q_pages := by decide
theorem p93 : 93 ∈ q_pages := by decide
theorem ix_7 {k : Nat} : (7 : Int32) + nI k = nI (7 + k) := nI_add 7 k
theorem ix_15 {k : Nat} : (15 : Int32) + nI k = nI (15 + k) := nI_add 15 k
set_option maxHeartbeats 4000000 in
set_option maxRecDepth 100000 in
theorem c_X10_in {I : Mem} {J : Lng} {v a b : Int64} : q_E yX10_in cX10_in 6 (some .boolean) 0 [.long v, .long a, .long b] I J (some (.int (zB (zin v a b)))) (I) (J) := by
  refine q_Ez (zB_01 _) me_X10_in rfl (Nat.le_of_ble_eq_true rfl) ?_
  show q_w _ _ _ _ _ _ _ 0 [some (.long v), none, some (.long a), none, some (.long b), none] [] I J
  refine w_lload_n dX10_in_0 rfl ?_
  refine w_lload_n dX10_in_1 rfl ?_
  refine w_lcmp dX10_in_2 ?_
  refine w_if_lt (tgt := 17) dX10_in_3 (by decide) (fun c_3 => ?_) (fun c_3 => ?_)
  · refine w_iconst (v := 0) dX10_in_17 (by decide) ?_
    refine w_ret dX10_in_18 ⟨?_, rfl, rfl⟩
    simp only [lg_cmp_lt, lg_cmp_gt, Int64.not_lt] at *
    first | (simp [zin, zB_t, zB_f, *]; done) | (simp_all [zin, zB_t, zB_f, ← Int64.not_lt]; done)
  · refine w_lload_n dX10_in_6 rfl ?_
    refine w_lload dX10_in_7 rfl ?_
    refine w_lcmp dX10_in_9 ?_
    refine w_if_gt (tgt := 17) dX10_in_10 (by decide) (fun c_10 => ?_) (fun c_10 => ?_)
    · refine w_iconst (v := 0) dX10_in_17 (by decide) ?_
      refine w_ret dX10_in_18 ⟨?_, rfl, rfl⟩
      simp only [lg_cmp_lt, lg_cmp_gt, Int64.not_lt] at *
      first | (simp [zin, zB_t, zB_f, *]; done) | (simp_all [zin, zB_t, zB_f, ← Int64.not_lt]; done)
    · refine w_iconst (v := 1) dX10_in_13 (by decide) ?_
      refine w_goto (tgt := 18) dX10_in_14 (by decide) ?_
      refine w_ret dX10_in_18 ⟨?_, rfl, rfl⟩
      simp only [lg_cmp_lt, lg_cmp_gt, Int64.not_lt] at *
      first | (simp [zin, zB_t, zB_f, *]; done) | (simp_all [zin, zB_t, zB_f, ← Int64.not_lt]; done)
set_option maxHeartbeats 4000000 in
set_option maxRecDepth 100000 in
theorem c_X10_has {I : Mem} {J : Lng} {s k : Int32} : q_E yX10_has cX10_has 2 (some .boolean) 0 [.int s, .int k] I J (some (.int (zB (zbit s k)))) (I) (J) := by
  refine q_Ez (zB_01 _) me_X10_has rfl (Nat.le_of_ble_eq_true rfl) ?_
  show q_w _ _ _ _ _ _ _ 0 [some (.int s), some (.int k)] [] I J
  refine w_iload_n dX10_has_0 rfl ?_
  refine w_iload_n dX10_has_1 rfl ?_
  refine w_ishr dX10_has_2 ?_
  refine w_iconst (v := 1) dX10_has_3 (by decide) ?_
  refine w_iand dX10_has_4 ?_
  refine w_iconst (v := 1) dX10_has_5 (by decide) ?_
  refine w_icmp_ne (tgt := 13) dX10_has_6 (by decide) (fun c_6 => ?_) (fun c_6 => ?_)
  · refine w_iconst (v := 0) dX10_has_13 (by decide) ?_
    refine w_ret dX10_has_14 ⟨?_, rfl, rfl⟩
    first | (simp [zB_eq0, zB_t, zB_f, zbit, *]; done) | (simp_all [zB_eq0, zB_t, zB_f, zbit]; done)
  · refine w_iconst (v := 1) dX10_has_9 (by decide) ?_
    refine w_goto (tgt := 14) dX10_has_10 (by decide) ?_
    refine w_ret dX10_has_14 ⟨?_, rfl, rfl⟩
    first | (simp [zB_eq0, zB_t, zB_f, zbit, *]; done) | (simp_all [zB_eq0, zB_t, zB_f, zbit]; done)
set_option maxHeartbeats 4000000 in
set_option maxRecDepth 100000 in
theorem c_X10_noPerson {I : Mem} {J : Lng} {N : Nat} (hN : I 92 6 = nI N) (h7 : N ≤ 7) {p : Int32} : q_E yX10_noPerson cX10_noPerson 2 (some .boolean) 1 [.ref 89, .int p] I J (some (.int (zB (!(pin p N).isSome)))) (I) (J) := by
  have hin := c_X10_in (I := I) (J := J) (v := p.toInt64) (a := 0) (b := (nI N - 1).toInt64)
  rw [zin_pin (nI_m1 N h7)] at hin
  refine q_Ez (zB_01 _) me_X10_noPerson rfl (Nat.le_of_ble_eq_true rfl) ?_
  show q_w _ _ _ _ _ _ _ 0 [some (.ref 89), some (.int p)] [] I J
  refine w_iload_n dX10_noPerson_0 rfl ?_
  refine w_i2l dX10_noPerson_1 ?_
  refine w_lconst (v := 0) dX10_noPerson_2 (by decide) ?_
  refine w_aload_n dX10_noPerson_3 rfl ?_
  refine w_getR dX10_noPerson_4 f_X10_16 (by first | assumption | rfl) rfl rfl ?_
  refine w_bipush (v := 6) dX10_noPerson_7 (by decide) ?_
  refine w_iald (j := 6) dX10_noPerson_9 (by first | assumption | rfl) rfl rfl (by decide) (by decide) ?_
  refine w_iconst (v := 1) dX10_noPerson_10 (by decide) ?_
  rw [hN]
  refine w_isub dX10_noPerson_11 ?_
  refine w_i2l dX10_noPerson_12 ?_
  refine w_callSi dX10_noPerson_13 k_X10_45 (hin) rfl rfl rfl (Nat.le_of_ble_eq_true rfl) (by first | decide | omega) ?_
  refine w_if_ne (tgt := 23) dX10_noPerson_16 (by decide) (fun c_16 => ?_) (fun c_16 => ?_)
  · refine w_iconst (v := 0) dX10_noPerson_23 (by decide) ?_
    refine w_ret dX10_noPerson_24 ⟨?_, rfl, rfl⟩
    cases hq : (pin p N).isSome <;> simp [hq, zB] at c_16 ⊢
  · refine w_iconst (v := 1) dX10_noPerson_19 (by decide) ?_
    refine w_goto (tgt := 24) dX10_noPerson_20 (by decide) ?_
    refine w_ret dX10_noPerson_24 ⟨?_, rfl, rfl⟩
    cases hq : (pin p N).isSome <;> simp [hq, zB] at c_16 ⊢
set_option maxHeartbeats 4000000 in
set_option maxRecDepth 100000 in
theorem c_X10_noTie {I : Mem} {J : Lng} {t : Int32} : q_E yX10_noTie cX10_noTie 1 (some .boolean) 1 [.int t] I J (some (.int (zB (!(pin t 4).isSome)))) (I) (J) := by
  have hin := c_X10_in (I := I) (J := J) (v := t.toInt64) (a := 0) (b := 3)
  rw [zin_pin (N := 4) (by decide)] at hin
  refine q_Ez (zB_01 _) me_X10_noTie rfl (Nat.le_of_ble_eq_true rfl) ?_
  show q_w _ _ _ _ _ _ _ 0 [some (.int t)] [] I J
  refine w_iload_n dX10_noTie_0 rfl ?_
  refine w_i2l dX10_noTie_1 ?_
  refine w_lconst (v := 0) dX10_noTie_2 (by decide) ?_
  refine w_ldc2 dX10_noTie_3 c_X10_49 ?_
  refine w_callSi dX10_noTie_6 k_X10_45 (hin) rfl rfl rfl (Nat.le_of_ble_eq_true rfl) (by first | decide | omega) ?_
  refine w_if_ne (tgt := 16) dX10_noTie_9 (by decide) (fun c_9 => ?_) (fun c_9 => ?_)
  · refine w_iconst (v := 0) dX10_noTie_16 (by decide) ?_
    refine w_ret dX10_noTie_17 ⟨?_, rfl, rfl⟩
    cases hq : (pin t 4).isSome <;> simp [hq, zB] at c_9 ⊢
  · refine w_iconst (v := 1) dX10_noTie_12 (by decide) ?_
    refine w_goto (tgt := 17) dX10_noTie_13 (by decide) ?_
    refine w_ret dX10_noTie_17 ⟨?_, rfl, rfl⟩
    cases hq : (pin t 4).isSome <;> simp [hq, zB] at c_9 ⊢
theorem fkm_128 {pr : Nat → Int32} {q : Int32} {k : Nat} (h : k ≤ 7) : fkm pr q k < 128 := Nat.lt_of_lt_of_le (fkm_lt _ _ _) (by have := Nat.pow_le_pow_right (show 0 < 2 by decide) h; omega)
theorem fkm_set {pr : Nat → Int32} {q : Int32} {k : Nat} (h : k < 7) : nI (fkm pr q k) ||| (1 <<< (nI k &&& 31)) = nI (fkm pr q k + 2 ^ k) := by
  rw [mI_set _ (fkm_128 (by omega)) k h]
  unfold mset
  rw [Nat.testBit_lt_two_pow (fkm_lt pr q k)]; rfl
set_option maxHeartbeats 4000000 in
set_option maxRecDepth 100000 in
theorem l_X10_childrenOf {I : Mem} {J : Lng} {t N : Nat} (ht : t ∈ q_pages) (hN : I t 6 = nI N) (h7 : N ≤ 7) {q : Int32} : ∀ (r k : Nat), N - k = r → k ≤ N → q_w yX10_childrenOf.cls yX10_childrenOf.name cX10_childrenOf 5 .ireturn 0 (fun st I1 J1 => st = [.int (nI (fkm (fun k => I t (7 + k)) q N))] ∧ I1 = I ∧ J1 = J) 5 [some (.ref 89), some (.ref t), some (.int q), some (.int (nI (fkm (fun k => I t (7 + k)) q k))), some (.int (nI k))] [] (I) (J) := by
  have hp := SH_page ht
  intro r
  induction r with
  | zero =>
    intro k hr hk
    obtain rfl : k = N := by omega
    refine w_iload dX10_childrenOf_5 rfl ?_
    refine w_aload_n dX10_childrenOf_7 rfl ?_
    refine w_bipush (v := 6) dX10_childrenOf_8 (by decide) ?_
    refine w_iald (j := 6) dX10_childrenOf_10 (by first | assumption | rfl) rfl rfl (by decide) (by decide) ?_
    refine w_icmp_ge (tgt := 42) dX10_childrenOf_11 (by decide) (fun c_11 => ?_) (fun c_11 => absurd (by rw [hN]; exact Int32.le_refl _) c_11)
    refine w_iload_n dX10_childrenOf_42 rfl ?_
    exact w_ret dX10_childrenOf_43 ⟨rfl, rfl, rfl⟩
  | succ r ih =>
    intro k hr hk
    have hk7 : k < 7 := by omega
    refine w_iload dX10_childrenOf_5 rfl ?_
    refine w_aload_n dX10_childrenOf_7 rfl ?_
    refine w_bipush (v := 6) dX10_childrenOf_8 (by decide) ?_
    refine w_iald (j := 6) dX10_childrenOf_10 (by first | assumption | rfl) rfl rfl (by decide) (by decide) ?_
    refine w_icmp_ge (tgt := 42) dX10_childrenOf_11 (by decide) (fun c_11 => absurd c_11 (by rw [hN]; exact nI_ge (by omega) (by omega))) (fun c_11 => ?_)
    refine w_iload_n dX10_childrenOf_14 rfl ?_
    refine w_aload_n dX10_childrenOf_15 rfl ?_
    refine w_bipush (v := 7) dX10_childrenOf_16 (by decide) ?_
    refine w_iload dX10_childrenOf_18 rfl ?_
    refine w_iadd dX10_childrenOf_20 ?_
    refine w_iald (j := (7 + k)) dX10_childrenOf_21 (by first | assumption | rfl) rfl ix_7 (show 7 + k < 22 by omega) (by decide) ?_
    refine w_iload_n dX10_childrenOf_22 rfl ?_
    refine w_icmp_ne (tgt := 33) dX10_childrenOf_23 (by decide) (fun c_23 => ?_) (fun c_23 => ?_)
    · refine w_iconst (v := 0) dX10_childrenOf_33 (by decide) ?_
      refine w_ior dX10_childrenOf_34 ?_
      have ef : fkm (fun k => I t (7 + k)) q (k + 1) = fkm (fun k => I t (7 + k)) q k := if_neg c_23
      rw [Int32.or_zero]
      refine w_istore_n dX10_childrenOf_35 (by decide) rfl ?_
      refine w_iincv (c := 1) dX10_childrenOf_36 (by decide) rfl (by decide) rfl ?_
      refine w_goto (tgt := 5) dX10_childrenOf_39 (by decide) ?_
      rw [← ef, nI_1]
      exact ih (k + 1) (by omega) (by omega)
    · refine w_iconst (v := 1) dX10_childrenOf_26 (by decide) ?_
      refine w_iload dX10_childrenOf_27 rfl ?_
      refine w_ishl dX10_childrenOf_29 ?_
      refine w_goto (tgt := 34) dX10_childrenOf_30 (by decide) ?_
      refine w_ior dX10_childrenOf_34 ?_
      have ef : fkm (fun k => I t (7 + k)) q (k + 1) = fkm (fun k => I t (7 + k)) q k + 2 ^ k := if_pos c_23
      rw [fkm_set hk7]
      refine w_istore_n dX10_childrenOf_35 (by decide) rfl ?_
      refine w_iincv (c := 1) dX10_childrenOf_36 (by decide) rfl (by decide) rfl ?_
      refine w_goto (tgt := 5) dX10_childrenOf_39 (by decide) ?_
      rw [← ef, nI_1]
      exact ih (k + 1) (by omega) (by omega)
set_option maxHeartbeats 4000000 in
set_option maxRecDepth 100000 in
theorem c_X10_childrenOf {I : Mem} {J : Lng} {t N : Nat} (ht : t ∈ q_pages) (hN : I t 6 = nI N) (h7 : N ≤ 7) {q : Int32} : q_E yX10_childrenOf cX10_childrenOf 5 (some .int) 0 [.ref 89, .ref t, .int q] I J (some (.int (nI (fkm (fun k => I t (7 + k)) q N)))) (I) (J) := by
  refine q_Ei me_X10_childrenOf rfl (Nat.le_of_ble_eq_true rfl) ?_
  show q_w _ _ _ _ _ _ _ 0 [some (.ref 89), some (.ref t), some (.int q), none, none] [] I J
  refine w_iconst (v := 0) dX10_childrenOf_0 (by decide) ?_
  refine w_istore_n dX10_childrenOf_1 (by decide) rfl ?_
  refine w_iconst (v := 0) dX10_childrenOf_2 (by decide) ?_
  refine w_istore dX10_childrenOf_3 (by decide) rfl ?_
  exact l_X10_childrenOf ht hN h7 N 0 rfl (Nat.zero_le _)
/-- a stands ahead of b -/
def mold (ag : Nat → Int32) (a b : Nat) : Bool := decide (ag b < ag a) || (decide (ag a = ag b) && decide (a < b))
def mah (w : Nat → Bool) (ag : Nat → Int32) (tie : Int32) (a b : Nat) : Bool := if tie = 2 ∧ w a ≠ w b then w a else if tie = 3 then !mold ag a b else mold ag a b
theorem zB_ne {a b : Bool} : zB a = zB b ↔ a = b := zB_inj
theorem zB_0f : (0 : Int32) = zB false := rfl
theorem zB_1t : (1 : Int32) = zB true := rfl
set_option maxHeartbeats 4000000 in
set_option maxRecDepth 100000 in
theorem c_X10_isAhead {I : Mem} {J : Lng} {t a b : Nat} (ht : t ∈ q_pages) (ha : a < 7) (hb : b < 7) {tie : Int32} : q_E yX10_isAhead cX10_isAhead 8 (some .boolean) 1 [.ref 89, .ref t, .int (nI a), .int (nI b), .int tie] I J (some (.int (zB (mah (fun k => zbit (I t 14) (nI k)) (fun k => I t (15 + k)) tie a b)))) (I) (J) := by
  have hp := SH_page ht
  refine q_Ez (zB_01 _) me_X10_isAhead rfl (Nat.le_of_ble_eq_true rfl) ?_
  show q_w _ _ _ _ _ _ _ 0 [some (.ref 89), some (.ref t), some (.int (nI a)), some (.int (nI b)), some (.int tie), none, none, none] [] I J
  refine w_aload_n dX10_isAhead_0 rfl ?_
  refine w_bipush (v := 14) dX10_isAhead_1 (by decide) ?_
  refine w_iald (j := 14) dX10_isAhead_3 (by first | assumption | rfl) rfl rfl (by decide) (by decide) ?_
  refine w_iload_n dX10_isAhead_4 rfl ?_
  refine w_callSi dX10_isAhead_5 k_X10_82 (c_X10_has) rfl rfl rfl (Nat.le_of_ble_eq_true rfl) (by first | decide | omega) ?_
  refine w_istore dX10_isAhead_8 (by decide) rfl ?_
  refine w_aload_n dX10_isAhead_10 rfl ?_
  refine w_bipush (v := 14) dX10_isAhead_11 (by decide) ?_
  refine w_iald (j := 14) dX10_isAhead_13 (by first | assumption | rfl) rfl rfl (by decide) (by decide) ?_
  refine w_iload_n dX10_isAhead_14 rfl ?_
  refine w_callSi dX10_isAhead_15 k_X10_82 (c_X10_has) rfl rfl rfl (Nat.le_of_ble_eq_true rfl) (by first | decide | omega) ?_
  refine w_istore dX10_isAhead_18 (by decide) rfl ?_
  refine w_iload dX10_isAhead_20 rfl ?_
  refine w_iconst (v := 2) dX10_isAhead_22 (by decide) ?_
  refine w_icmp_ne (tgt := 36) dX10_isAhead_23 (by decide) (fun c_23 => ?_) (fun c_23 => ?_)
  · refine w_aload_n dX10_isAhead_36 rfl ?_
    refine w_bipush (v := 15) dX10_isAhead_37 (by decide) ?_
    refine w_iload_n dX10_isAhead_39 rfl ?_
    refine w_iadd dX10_isAhead_40 ?_
    refine w_iald (j := (15 + a)) dX10_isAhead_41 (by first | assumption | rfl) rfl ix_15 (show 15 + a < 22 by omega) (by decide) ?_
    refine w_aload_n dX10_isAhead_42 rfl ?_
    refine w_bipush (v := 15) dX10_isAhead_43 (by decide) ?_
    refine w_iload_n dX10_isAhead_45 rfl ?_
    refine w_iadd dX10_isAhead_46 ?_
    refine w_iald (j := (15 + b)) dX10_isAhead_47 (by first | assumption | rfl) rfl ix_15 (show 15 + b < 22 by omega) (by decide) ?_
    refine w_icmp_gt (tgt := 71) dX10_isAhead_48 (by decide) (fun c_48 => ?_) (fun c_48 => ?_)
    · refine w_iconst (v := 1) dX10_isAhead_71 (by decide) ?_
      refine w_goto (tgt := 76) dX10_isAhead_72 (by decide) ?_
      refine w_istore dX10_isAhead_76 (by decide) rfl ?_
      refine w_iload dX10_isAhead_78 rfl ?_
      refine w_iconst (v := 3) dX10_isAhead_80 (by decide) ?_
      refine w_icmp_ne (tgt := 97) dX10_isAhead_81 (by decide) (fun c_81 => ?_) (fun c_81 => ?_)
      · refine w_iload dX10_isAhead_97 rfl ?_
        have hx : ¬ (tie = 2 ∧ zbit (I t 14) (nI a) ≠ zbit (I t 14) (nI b)) := by
          intro hh
          first | exact c_23 hh.1 | exact hh.2 (zB_inj.mp c_30)
        refine w_ret dX10_isAhead_99 ⟨?_, rfl, rfl⟩
        unfold mah
        rw [if_neg hx]
        have hlt : (nI b ≤ nI a) ↔ b ≤ a := by rw [ti_le, nI_toInt (by omega), nI_toInt (by omega)]; omega
        first
          | (simp [mold, zB_t, zB_f, *]; done)
          | (simp_all [mold, zB_t, zB_f]; done)
          | (have hle : ¬ b ≤ a := by rw [← hlt]; assumption
             have hab : a < b := by omega
             simp [mold, zB_t, zB_f, *]; done)
          | (have hle : b ≤ a := by rw [← hlt]; assumption
             have hab : ¬ a < b := by omega
             simp [mold, zB_t, zB_f, *]; done)
          | (have hle : ¬ b ≤ a := by rw [← hlt]; assumption
             have hab : a < b := by omega
             simp_all [mold, zB_t, zB_f]; done)
          | (have hle : b ≤ a := by rw [← hlt]; assumption
             have hab : ¬ a < b := by omega
             simp_all [mold, zB_t, zB_f]; done)
      · refine w_iload dX10_isAhead_84 rfl ?_
        refine w_if_ne (tgt := 93) dX10_isAhead_86 (by decide) (fun c_86 => ?_) (fun c_86 => ?_)
        · refine w_iconst (v := 0) dX10_isAhead_93 (by decide) ?_
          refine w_goto (tgt := 99) dX10_isAhead_94 (by decide) ?_
          have hx : ¬ (tie = 2 ∧ zbit (I t 14) (nI a) ≠ zbit (I t 14) (nI b)) := by
            intro hh
            first | exact c_23 hh.1 | exact hh.2 (zB_inj.mp c_30)
          refine w_ret dX10_isAhead_99 ⟨?_, rfl, rfl⟩
          unfold mah
          rw [if_neg hx]
          have hlt : (nI b ≤ nI a) ↔ b ≤ a := by rw [ti_le, nI_toInt (by omega), nI_toInt (by omega)]; omega
          first
            | (simp [mold, zB_t, zB_f, *]; done)
            | (simp_all [mold, zB_t, zB_f]; done)
            | (have hle : ¬ b ≤ a := by rw [← hlt]; assumption
               have hab : a < b := by omega
               simp [mold, zB_t, zB_f, *]; done)
            | (have hle : b ≤ a := by rw [← hlt]; assumption
               have hab : ¬ a < b := by omega
               simp [mold, zB_t, zB_f, *]; done)
            | (have hle : ¬ b ≤ a := by rw [← hlt]; assumption
               have hab : a < b := by omega
               simp_all [mold, zB_t, zB_f]; done)
            | (have hle : b ≤ a := by rw [← hlt]; assumption
               have hab : ¬ a < b := by omega
               simp_all [mold, zB_t, zB_f]; done)
        · refine w_iconst (v := 1) dX10_isAhead_89 (by decide) ?_
          refine w_goto (tgt := 99) dX10_isAhead_90 (by decide) ?_
          have hx : ¬ (tie = 2 ∧ zbit (I t 14) (nI a) ≠ zbit (I t 14) (nI b)) := by
            intro hh
            first | exact c_23 hh.1 | exact hh.2 (zB_inj.mp c_30)
          refine w_ret dX10_isAhead_99 ⟨?_, rfl, rfl⟩
          unfold mah
          rw [if_neg hx]
          have hlt : (nI b ≤ nI a) ↔ b ≤ a := by rw [ti_le, nI_toInt (by omega), nI_toInt (by omega)]; omega
          first
            | (simp [mold, zB_t, zB_f, *]; done)
            | (simp_all [mold, zB_t, zB_f]; done)
            | (have hle : ¬ b ≤ a := by rw [← hlt]; assumption
               have hab : a < b := by omega
               simp [mold, zB_t, zB_f, *]; done)
            | (have hle : b ≤ a := by rw [← hlt]; assumption
               have hab : ¬ a < b := by omega
               simp [mold, zB_t, zB_f, *]; done)
            | (have hle : ¬ b ≤ a := by rw [← hlt]; assumption
               have hab : a < b := by omega
               simp_all [mold, zB_t, zB_f]; done)
            | (have hle : b ≤ a := by rw [← hlt]; assumption
               have hab : ¬ a < b := by omega
               simp_all [mold, zB_t, zB_f]; done)
    · refine w_aload_n dX10_isAhead_51 rfl ?_
      refine w_bipush (v := 15) dX10_isAhead_52 (by decide) ?_
      refine w_iload_n dX10_isAhead_54 rfl ?_
      refine w_iadd dX10_isAhead_55 ?_
      refine w_iald (j := (15 + a)) dX10_isAhead_56 (by first | assumption | rfl) rfl ix_15 (show 15 + a < 22 by omega) (by decide) ?_
      refine w_aload_n dX10_isAhead_57 rfl ?_
      refine w_bipush (v := 15) dX10_isAhead_58 (by decide) ?_
      refine w_iload_n dX10_isAhead_60 rfl ?_
      refine w_iadd dX10_isAhead_61 ?_
      refine w_iald (j := (15 + b)) dX10_isAhead_62 (by first | assumption | rfl) rfl ix_15 (show 15 + b < 22 by omega) (by decide) ?_
      refine w_icmp_ne (tgt := 75) dX10_isAhead_63 (by decide) (fun c_63 => ?_) (fun c_63 => ?_)
      · refine w_iconst (v := 0) dX10_isAhead_75 (by decide) ?_
        refine w_istore dX10_isAhead_76 (by decide) rfl ?_
        refine w_iload dX10_isAhead_78 rfl ?_
        refine w_iconst (v := 3) dX10_isAhead_80 (by decide) ?_
        refine w_icmp_ne (tgt := 97) dX10_isAhead_81 (by decide) (fun c_81 => ?_) (fun c_81 => ?_)
        · refine w_iload dX10_isAhead_97 rfl ?_
          have hx : ¬ (tie = 2 ∧ zbit (I t 14) (nI a) ≠ zbit (I t 14) (nI b)) := by
            intro hh
            first | exact c_23 hh.1 | exact hh.2 (zB_inj.mp c_30)
          refine w_ret dX10_isAhead_99 ⟨?_, rfl, rfl⟩
          unfold mah
          rw [if_neg hx]
          have hlt : (nI b ≤ nI a) ↔ b ≤ a := by rw [ti_le, nI_toInt (by omega), nI_toInt (by omega)]; omega
          first
            | (simp [mold, zB_t, zB_f, *]; done)
            | (simp_all [mold, zB_t, zB_f]; done)
            | (have hle : ¬ b ≤ a := by rw [← hlt]; assumption
               have hab : a < b := by omega
               simp [mold, zB_t, zB_f, *]; done)
            | (have hle : b ≤ a := by rw [← hlt]; assumption
               have hab : ¬ a < b := by omega
               simp [mold, zB_t, zB_f, *]; done)
            | (have hle : ¬ b ≤ a := by rw [← hlt]; assumption
               have hab : a < b := by omega
               simp_all [mold, zB_t, zB_f]; done)
            | (have hle : b ≤ a := by rw [← hlt]; assumption
               have hab : ¬ a < b := by omega
               simp_all [mold, zB_t, zB_f]; done)
        · refine w_iload dX10_isAhead_84 rfl ?_
          refine w_if_ne (tgt := 93) dX10_isAhead_86 (by decide) (fun c_86 => ?_) (fun c_86 => ?_)
          · refine w_iconst (v := 0) dX10_isAhead_93 (by decide) ?_
            refine w_goto (tgt := 99) dX10_isAhead_94 (by decide) ?_
            have hx : ¬ (tie = 2 ∧ zbit (I t 14) (nI a) ≠ zbit (I t 14) (nI b)) := by
              intro hh
              first | exact c_23 hh.1 | exact hh.2 (zB_inj.mp c_30)
            refine w_ret dX10_isAhead_99 ⟨?_, rfl, rfl⟩
            unfold mah
            rw [if_neg hx]
            have hlt : (nI b ≤ nI a) ↔ b ≤ a := by rw [ti_le, nI_toInt (by omega), nI_toInt (by omega)]; omega
            first
              | (simp [mold, zB_t, zB_f, *]; done)
              | (simp_all [mold, zB_t, zB_f]; done)
              | (have hle : ¬ b ≤ a := by rw [← hlt]; assumption
                 have hab : a < b := by omega
                 simp [mold, zB_t, zB_f, *]; done)
              | (have hle : b ≤ a := by rw [← hlt]; assumption
                 have hab : ¬ a < b := by omega
                 simp [mold, zB_t, zB_f, *]; done)
              | (have hle : ¬ b ≤ a := by rw [← hlt]; assumption
                 have hab : a < b := by omega
                 simp_all [mold, zB_t, zB_f]; done)
              | (have hle : b ≤ a := by rw [← hlt]; assumption
                 have hab : ¬ a < b := by omega
                 simp_all [mold, zB_t, zB_f]; done)
          · refine w_iconst (v := 1) dX10_isAhead_89 (by decide) ?_
            refine w_goto (tgt := 99) dX10_isAhead_90 (by decide) ?_
            have hx : ¬ (tie = 2 ∧ zbit (I t 14) (nI a) ≠ zbit (I t 14) (nI b)) := by
              intro hh
              first | exact c_23 hh.1 | exact hh.2 (zB_inj.mp c_30)
            refine w_ret dX10_isAhead_99 ⟨?_, rfl, rfl⟩
            unfold mah
            rw [if_neg hx]
            have hlt : (nI b ≤ nI a) ↔ b ≤ a := by rw [ti_le, nI_toInt (by omega), nI_toInt (by omega)]; omega
            first
              | (simp [mold, zB_t, zB_f, *]; done)
              | (simp_all [mold, zB_t, zB_f]; done)
              | (have hle : ¬ b ≤ a := by rw [← hlt]; assumption
                 have hab : a < b := by omega
                 simp [mold, zB_t, zB_f, *]; done)
              | (have hle : b ≤ a := by rw [← hlt]; assumption
                 have hab : ¬ a < b := by omega
                 simp [mold, zB_t, zB_f, *]; done)
              | (have hle : ¬ b ≤ a := by rw [← hlt]; assumption
                 have hab : a < b := by omega
                 simp_all [mold, zB_t, zB_f]; done)
              | (have hle : b ≤ a := by rw [← hlt]; assumption
                 have hab : ¬ a < b := by omega
                 simp_all [mold, zB_t, zB_f]; done)
      · refine w_iload_n dX10_isAhead_66 rfl ?_
        refine w_iload_n dX10_isAhead_67 rfl ?_
        refine w_icmp_ge (tgt := 75) dX10_isAhead_68 (by decide) (fun c_68 => ?_) (fun c_68 => ?_)
        · refine w_iconst (v := 0) dX10_isAhead_75 (by decide) ?_
          refine w_istore dX10_isAhead_76 (by decide) rfl ?_
          refine w_iload dX10_isAhead_78 rfl ?_
          refine w_iconst (v := 3) dX10_isAhead_80 (by decide) ?_
          refine w_icmp_ne (tgt := 97) dX10_isAhead_81 (by decide) (fun c_81 => ?_) (fun c_81 => ?_)
          · refine w_iload dX10_isAhead_97 rfl ?_
            have hx : ¬ (tie = 2 ∧ zbit (I t 14) (nI a) ≠ zbit (I t 14) (nI b)) := by
              intro hh
              first | exact c_23 hh.1 | exact hh.2 (zB_inj.mp c_30)
            refine w_ret dX10_isAhead_99 ⟨?_, rfl, rfl⟩
            unfold mah
            rw [if_neg hx]
            have hlt : (nI b ≤ nI a) ↔ b ≤ a := by rw [ti_le, nI_toInt (by omega), nI_toInt (by omega)]; omega
            first
              | (simp [mold, zB_t, zB_f, *]; done)
              | (simp_all [mold, zB_t, zB_f]; done)
              | (have hle : ¬ b ≤ a := by rw [← hlt]; assumption
                 have hab : a < b := by omega
                 simp [mold, zB_t, zB_f, *]; done)
              | (have hle : b ≤ a := by rw [← hlt]; assumption
                 have hab : ¬ a < b := by omega
                 simp [mold, zB_t, zB_f, *]; done)
              | (have hle : ¬ b ≤ a := by rw [← hlt]; assumption
                 have hab : a < b := by omega
                 simp_all [mold, zB_t, zB_f]; done)
              | (have hle : b ≤ a := by rw [← hlt]; assumption
                 have hab : ¬ a < b := by omega
                 simp_all [mold, zB_t, zB_f]; done)
          · refine w_iload dX10_isAhead_84 rfl ?_
            refine w_if_ne (tgt := 93) dX10_isAhead_86 (by decide) (fun c_86 => ?_) (fun c_86 => ?_)
            · refine w_iconst (v := 0) dX10_isAhead_93 (by decide) ?_
              refine w_goto (tgt := 99) dX10_isAhead_94 (by decide) ?_
              have hx : ¬ (tie = 2 ∧ zbit (I t 14) (nI a) ≠ zbit (I t 14) (nI b)) := by
                intro hh
                first | exact c_23 hh.1 | exact hh.2 (zB_inj.mp c_30)
              refine w_ret dX10_isAhead_99 ⟨?_, rfl, rfl⟩
              unfold mah
              rw [if_neg hx]
              have hlt : (nI b ≤ nI a) ↔ b ≤ a := by rw [ti_le, nI_toInt (by omega), nI_toInt (by omega)]; omega
              first
                | (simp [mold, zB_t, zB_f, *]; done)
                | (simp_all [mold, zB_t, zB_f]; done)
                | (have hle : ¬ b ≤ a := by rw [← hlt]; assumption
                   have hab : a < b := by omega
                   simp [mold, zB_t, zB_f, *]; done)
                | (have hle : b ≤ a := by rw [← hlt]; assumption
                   have hab : ¬ a < b := by omega
                   simp [mold, zB_t, zB_f, *]; done)
                | (have hle : ¬ b ≤ a := by rw [← hlt]; assumption
                   have hab : a < b := by omega
                   simp_all [mold, zB_t, zB_f]; done)
                | (have hle : b ≤ a := by rw [← hlt]; assumption
                   have hab : ¬ a < b := by omega
                   simp_all [mold, zB_t, zB_f]; done)
            · refine w_iconst (v := 1) dX10_isAhead_89 (by decide) ?_
              refine w_goto (tgt := 99) dX10_isAhead_90 (by decide) ?_
              have hx : ¬ (tie = 2 ∧ zbit (I t 14) (nI a) ≠ zbit (I t 14) (nI b)) := by
                intro hh
                first | exact c_23 hh.1 | exact hh.2 (zB_inj.mp c_30)
              refine w_ret dX10_isAhead_99 ⟨?_, rfl, rfl⟩
              unfold mah
              rw [if_neg hx]
              have hlt : (nI b ≤ nI a) ↔ b ≤ a := by rw [ti_le, nI_toInt (by omega), nI_toInt (by omega)]; omega
              first
                | (simp [mold, zB_t, zB_f, *]; done)
                | (simp_all [mold, zB_t, zB_f]; done)
                | (have hle : ¬ b ≤ a := by rw [← hlt]; assumption
                   have hab : a < b := by omega
                   simp [mold, zB_t, zB_f, *]; done)
                | (have hle : b ≤ a := by rw [← hlt]; assumption
                   have hab : ¬ a < b := by omega
                   simp [mold, zB_t, zB_f, *]; done)
                | (have hle : ¬ b ≤ a := by rw [← hlt]; assumption
                   have hab : a < b := by omega
                   simp_all [mold, zB_t, zB_f]; done)
                | (have hle : b ≤ a := by rw [← hlt]; assumption
                   have hab : ¬ a < b := by omega
                   simp_all [mold, zB_t, zB_f]; done)
        · refine w_iconst (v := 1) dX10_isAhead_71 (by decide) ?_
          refine w_goto (tgt := 76) dX10_isAhead_72 (by decide) ?_
          refine w_istore dX10_isAhead_76 (by decide) rfl ?_
          refine w_iload dX10_isAhead_78 rfl ?_
          refine w_iconst (v := 3) dX10_isAhead_80 (by decide) ?_
          refine w_icmp_ne (tgt := 97) dX10_isAhead_81 (by decide) (fun c_81 => ?_) (fun c_81 => ?_)
          · refine w_iload dX10_isAhead_97 rfl ?_
            have hx : ¬ (tie = 2 ∧ zbit (I t 14) (nI a) ≠ zbit (I t 14) (nI b)) := by
              intro hh
              first | exact c_23 hh.1 | exact hh.2 (zB_inj.mp c_30)
            refine w_ret dX10_isAhead_99 ⟨?_, rfl, rfl⟩
            unfold mah
            rw [if_neg hx]
            have hlt : (nI b ≤ nI a) ↔ b ≤ a := by rw [ti_le, nI_toInt (by omega), nI_toInt (by omega)]; omega
            first
              | (simp [mold, zB_t, zB_f, *]; done)
              | (simp_all [mold, zB_t, zB_f]; done)
              | (have hle : ¬ b ≤ a := by rw [← hlt]; assumption
                 have hab : a < b := by omega
                 simp [mold, zB_t, zB_f, *]; done)
              | (have hle : b ≤ a := by rw [← hlt]; assumption
                 have hab : ¬ a < b := by omega
                 simp [mold, zB_t, zB_f, *]; done)
              | (have hle : ¬ b ≤ a := by rw [← hlt]; assumption
                 have hab : a < b := by omega
                 simp_all [mold, zB_t, zB_f]; done)
              | (have hle : b ≤ a := by rw [← hlt]; assumption
                 have hab : ¬ a < b := by omega
                 simp_all [mold, zB_t, zB_f]; done)
          · refine w_iload dX10_isAhead_84 rfl ?_
            refine w_if_ne (tgt := 93) dX10_isAhead_86 (by decide) (fun c_86 => ?_) (fun c_86 => ?_)
            · refine w_iconst (v := 0) dX10_isAhead_93 (by decide) ?_
              refine w_goto (tgt := 99) dX10_isAhead_94 (by decide) ?_
              have hx : ¬ (tie = 2 ∧ zbit (I t 14) (nI a) ≠ zbit (I t 14) (nI b)) := by
                intro hh
                first | exact c_23 hh.1 | exact hh.2 (zB_inj.mp c_30)
              refine w_ret dX10_isAhead_99 ⟨?_, rfl, rfl⟩
              unfold mah
              rw [if_neg hx]
              have hlt : (nI b ≤ nI a) ↔ b ≤ a := by rw [ti_le, nI_toInt (by omega), nI_toInt (by omega)]; omega
              first
                | (simp [mold, zB_t, zB_f, *]; done)
                | (simp_all [mold, zB_t, zB_f]; done)
                | (have hle : ¬ b ≤ a := by rw [← hlt]; assumption
                   have hab : a < b := by omega
                   simp [mold, zB_t, zB_f, *]; done)
                | (have hle : b ≤ a := by rw [← hlt]; assumption
                   have hab : ¬ a < b := by omega
                   simp [mold, zB_t, zB_f, *]; done)
                | (have hle : ¬ b ≤ a := by rw [← hlt]; assumption
                   have hab : a < b := by omega
                   simp_all [mold, zB_t, zB_f]; done)
                | (have hle : b ≤ a := by rw [← hlt]; assumption
                   have hab : ¬ a < b := by omega
                   simp_all [mold, zB_t, zB_f]; done)
            · refine w_iconst (v := 1) dX10_isAhead_89 (by decide) ?_
              refine w_goto (tgt := 99) dX10_isAhead_90 (by decide) ?_
              have hx : ¬ (tie = 2 ∧ zbit (I t 14) (nI a) ≠ zbit (I t 14) (nI b)) := by
                intro hh
                first | exact c_23 hh.1 | exact hh.2 (zB_inj.mp c_30)
              refine w_ret dX10_isAhead_99 ⟨?_, rfl, rfl⟩
              unfold mah
              rw [if_neg hx]
              have hlt : (nI b ≤ nI a) ↔ b ≤ a := by rw [ti_le, nI_toInt (by omega), nI_toInt (by omega)]; omega
              first
                | (simp [mold, zB_t, zB_f, *]; done)
                | (simp_all [mold, zB_t, zB_f]; done)
                | (have hle : ¬ b ≤ a := by rw [← hlt]; assumption
                   have hab : a < b := by omega
                   simp [mold, zB_t, zB_f, *]; done)
                | (have hle : b ≤ a := by rw [← hlt]; assumption
                   have hab : ¬ a < b := by omega
                   simp [mold, zB_t, zB_f, *]; done)
                | (have hle : ¬ b ≤ a := by rw [← hlt]; assumption
                   have hab : a < b := by omega
                   simp_all [mold, zB_t, zB_f]; done)
                | (have hle : b ≤ a := by rw [← hlt]; assumption
                   have hab : ¬ a < b := by omega
                   simp_all [mold, zB_t, zB_f]; done)
  · refine w_iload dX10_isAhead_26 rfl ?_
    refine w_iload dX10_isAhead_28 rfl ?_
    refine w_icmp_eq (tgt := 36) dX10_isAhead_30 (by decide) (fun c_30 => ?_) (fun c_30 => ?_)
    · refine w_aload_n dX10_isAhead_36 rfl ?_
      refine w_bipush (v := 15) dX10_isAhead_37 (by decide) ?_
      refine w_iload_n dX10_isAhead_39 rfl ?_
      refine w_iadd dX10_isAhead_40 ?_
      refine w_iald (j := (15 + a)) dX10_isAhead_41 (by first | assumption | rfl) rfl ix_15 (show 15 + a < 22 by omega) (by decide) ?_
      refine w_aload_n dX10_isAhead_42 rfl ?_
      refine w_bipush (v := 15) dX10_isAhead_43 (by decide) ?_
      refine w_iload_n dX10_isAhead_45 rfl ?_
      refine w_iadd dX10_isAhead_46 ?_
      refine w_iald (j := (15 + b)) dX10_isAhead_47 (by first | assumption | rfl) rfl ix_15 (show 15 + b < 22 by omega) (by decide) ?_
      refine w_icmp_gt (tgt := 71) dX10_isAhead_48 (by decide) (fun c_48 => ?_) (fun c_48 => ?_)
      · refine w_iconst (v := 1) dX10_isAhead_71 (by decide) ?_
        refine w_goto (tgt := 76) dX10_isAhead_72 (by decide) ?_
        refine w_istore dX10_isAhead_76 (by decide) rfl ?_
        refine w_iload dX10_isAhead_78 rfl ?_
        refine w_iconst (v := 3) dX10_isAhead_80 (by decide) ?_
        refine w_icmp_ne (tgt := 97) dX10_isAhead_81 (by decide) (fun c_81 => ?_) (fun c_81 => ?_)
        · refine w_iload dX10_isAhead_97 rfl ?_
          have hx : ¬ (tie = 2 ∧ zbit (I t 14) (nI a) ≠ zbit (I t 14) (nI b)) := by
            intro hh
            first | exact c_23 hh.1 | exact hh.2 (zB_inj.mp c_30)
          refine w_ret dX10_isAhead_99 ⟨?_, rfl, rfl⟩
          unfold mah
          rw [if_neg hx]
          have hlt : (nI b ≤ nI a) ↔ b ≤ a := by rw [ti_le, nI_toInt (by omega), nI_toInt (by omega)]; omega
          first
            | (simp [mold, zB_t, zB_f, *]; done)
            | (simp_all [mold, zB_t, zB_f]; done)
            | (have hle : ¬ b ≤ a := by rw [← hlt]; assumption
               have hab : a < b := by omega
               simp [mold, zB_t, zB_f, *]; done)
            | (have hle : b ≤ a := by rw [← hlt]; assumption
               have hab : ¬ a < b := by omega
               simp [mold, zB_t, zB_f, *]; done)
            | (have hle : ¬ b ≤ a := by rw [← hlt]; assumption
               have hab : a < b := by omega
               simp_all [mold, zB_t, zB_f]; done)
            | (have hle : b ≤ a := by rw [← hlt]; assumption
               have hab : ¬ a < b := by omega
               simp_all [mold, zB_t, zB_f]; done)
        · refine w_iload dX10_isAhead_84 rfl ?_
          refine w_if_ne (tgt := 93) dX10_isAhead_86 (by decide) (fun c_86 => ?_) (fun c_86 => ?_)
          · refine w_iconst (v := 0) dX10_isAhead_93 (by decide) ?_
            refine w_goto (tgt := 99) dX10_isAhead_94 (by decide) ?_
            have hx : ¬ (tie = 2 ∧ zbit (I t 14) (nI a) ≠ zbit (I t 14) (nI b)) := by
              intro hh
              first | exact c_23 hh.1 | exact hh.2 (zB_inj.mp c_30)
            refine w_ret dX10_isAhead_99 ⟨?_, rfl, rfl⟩
            unfold mah
            rw [if_neg hx]
            have hlt : (nI b ≤ nI a) ↔ b ≤ a := by rw [ti_le, nI_toInt (by omega), nI_toInt (by omega)]; omega
            first
              | (simp [mold, zB_t, zB_f, *]; done)
              | (simp_all [mold, zB_t, zB_f]; done)
              | (have hle : ¬ b ≤ a := by rw [← hlt]; assumption
                 have hab : a < b := by omega
                 simp [mold, zB_t, zB_f, *]; done)
              | (have hle : b ≤ a := by rw [← hlt]; assumption
                 have hab : ¬ a < b := by omega
                 simp [mold, zB_t, zB_f, *]; done)
              | (have hle : ¬ b ≤ a := by rw [← hlt]; assumption
                 have hab : a < b := by omega
                 simp_all [mold, zB_t, zB_f]; done)
              | (have hle : b ≤ a := by rw [← hlt]; assumption
                 have hab : ¬ a < b := by omega
                 simp_all [mold, zB_t, zB_f]; done)
          · refine w_iconst (v := 1) dX10_isAhead_89 (by decide) ?_
            refine w_goto (tgt := 99) dX10_isAhead_90 (by decide) ?_
            have hx : ¬ (tie = 2 ∧ zbit (I t 14) (nI a) ≠ zbit (I t 14) (nI b)) := by
              intro hh
              first | exact c_23 hh.1 | exact hh.2 (zB_inj.mp c_30)
            refine w_ret dX10_isAhead_99 ⟨?_, rfl, rfl⟩
            unfold mah
            rw [if_neg hx]
            have hlt : (nI b ≤ nI a) ↔ b ≤ a := by rw [ti_le, nI_toInt (by omega), nI_toInt (by omega)]; omega
            first
              | (simp [mold, zB_t, zB_f, *]; done)
              | (simp_all [mold, zB_t, zB_f]; done)
              | (have hle : ¬ b ≤ a := by rw [← hlt]; assumption
                 have hab : a < b := by omega
                 simp [mold, zB_t, zB_f, *]; done)
              | (have hle : b ≤ a := by rw [← hlt]; assumption
                 have hab : ¬ a < b := by omega
                 simp [mold, zB_t, zB_f, *]; done)
              | (have hle : ¬ b ≤ a := by rw [← hlt]; assumption
                 have hab : a < b := by omega
                 simp_all [mold, zB_t, zB_f]; done)
              | (have hle : b ≤ a := by rw [← hlt]; assumption
                 have hab : ¬ a < b := by omega
                 simp_all [mold, zB_t, zB_f]; done)
      · refine w_aload_n dX10_isAhead_51 rfl ?_
        refine w_bipush (v := 15) dX10_isAhead_52 (by decide) ?_
        refine w_iload_n dX10_isAhead_54 rfl ?_
        refine w_iadd dX10_isAhead_55 ?_
        refine w_iald (j := (15 + a)) dX10_isAhead_56 (by first | assumption | rfl) rfl ix_15 (show 15 + a < 22 by omega) (by decide) ?_
        refine w_aload_n dX10_isAhead_57 rfl ?_
        refine w_bipush (v := 15) dX10_isAhead_58 (by decide) ?_
        refine w_iload_n dX10_isAhead_60 rfl ?_
        refine w_iadd dX10_isAhead_61 ?_
        refine w_iald (j := (15 + b)) dX10_isAhead_62 (by first | assumption | rfl) rfl ix_15 (show 15 + b < 22 by omega) (by decide) ?_
        refine w_icmp_ne (tgt := 75) dX10_isAhead_63 (by decide) (fun c_63 => ?_) (fun c_63 => ?_)
        · refine w_iconst (v := 0) dX10_isAhead_75 (by decide) ?_
          refine w_istore dX10_isAhead_76 (by decide) rfl ?_
          refine w_iload dX10_isAhead_78 rfl ?_
          refine w_iconst (v := 3) dX10_isAhead_80 (by decide) ?_
          refine w_icmp_ne (tgt := 97) dX10_isAhead_81 (by decide) (fun c_81 => ?_) (fun c_81 => ?_)
          · refine w_iload dX10_isAhead_97 rfl ?_
            have hx : ¬ (tie = 2 ∧ zbit (I t 14) (nI a) ≠ zbit (I t 14) (nI b)) := by
              intro hh
              first | exact c_23 hh.1 | exact hh.2 (zB_inj.mp c_30)
            refine w_ret dX10_isAhead_99 ⟨?_, rfl, rfl⟩
            unfold mah
            rw [if_neg hx]
            have hlt : (nI b ≤ nI a) ↔ b ≤ a := by rw [ti_le, nI_toInt (by omega), nI_toInt (by omega)]; omega
            first
              | (simp [mold, zB_t, zB_f, *]; done)
              | (simp_all [mold, zB_t, zB_f]; done)
              | (have hle : ¬ b ≤ a := by rw [← hlt]; assumption
                 have hab : a < b := by omega
                 simp [mold, zB_t, zB_f, *]; done)
              | (have hle : b ≤ a := by rw [← hlt]; assumption
                 have hab : ¬ a < b := by omega
                 simp [mold, zB_t, zB_f, *]; done)
              | (have hle : ¬ b ≤ a := by rw [← hlt]; assumption
                 have hab : a < b := by omega
                 simp_all [mold, zB_t, zB_f]; done)
              | (have hle : b ≤ a := by rw [← hlt]; assumption
                 have hab : ¬ a < b := by omega
                 simp_all [mold, zB_t, zB_f]; done)
          · refine w_iload dX10_isAhead_84 rfl ?_
            refine w_if_ne (tgt := 93) dX10_isAhead_86 (by decide) (fun c_86 => ?_) (fun c_86 => ?_)
            · refine w_iconst (v := 0) dX10_isAhead_93 (by decide) ?_
              refine w_goto (tgt := 99) dX10_isAhead_94 (by decide) ?_
              have hx : ¬ (tie = 2 ∧ zbit (I t 14) (nI a) ≠ zbit (I t 14) (nI b)) := by
                intro hh
                first | exact c_23 hh.1 | exact hh.2 (zB_inj.mp c_30)
              refine w_ret dX10_isAhead_99 ⟨?_, rfl, rfl⟩
              unfold mah
              rw [if_neg hx]
              have hlt : (nI b ≤ nI a) ↔ b ≤ a := by rw [ti_le, nI_toInt (by omega), nI_toInt (by omega)]; omega
              first
                | (simp [mold, zB_t, zB_f, *]; done)
                | (simp_all [mold, zB_t, zB_f]; done)
                | (have hle : ¬ b ≤ a := by rw [← hlt]; assumption
                   have hab : a < b := by omega
                   simp [mold, zB_t, zB_f, *]; done)
                | (have hle : b ≤ a := by rw [← hlt]; assumption
                   have hab : ¬ a < b := by omega
                   simp [mold, zB_t, zB_f, *]; done)
                | (have hle : ¬ b ≤ a := by rw [← hlt]; assumption
                   have hab : a < b := by omega
                   simp_all [mold, zB_t, zB_f]; done)
                | (have hle : b ≤ a := by rw [← hlt]; assumption
                   have hab : ¬ a < b := by omega
                   simp_all [mold, zB_t, zB_f]; done)
            · refine w_iconst (v := 1) dX10_isAhead_89 (by decide) ?_
              refine w_goto (tgt := 99) dX10_isAhead_90 (by decide) ?_
              have hx : ¬ (tie = 2 ∧ zbit (I t 14) (nI a) ≠ zbit (I t 14) (nI b)) := by
                intro hh
                first | exact c_23 hh.1 | exact hh.2 (zB_inj.mp c_30)
              refine w_ret dX10_isAhead_99 ⟨?_, rfl, rfl⟩
              unfold mah
              rw [if_neg hx]
              have hlt : (nI b ≤ nI a) ↔ b ≤ a := by rw [ti_le, nI_toInt (by omega), nI_toInt (by omega)]; omega
              first
                | (simp [mold, zB_t, zB_f, *]; done)
                | (simp_all [mold, zB_t, zB_f]; done)
                | (have hle : ¬ b ≤ a := by rw [← hlt]; assumption
                   have hab : a < b := by omega
                   simp [mold, zB_t, zB_f, *]; done)
                | (have hle : b ≤ a := by rw [← hlt]; assumption
                   have hab : ¬ a < b := by omega
                   simp [mold, zB_t, zB_f, *]; done)
                | (have hle : ¬ b ≤ a := by rw [← hlt]; assumption
                   have hab : a < b := by omega
                   simp_all [mold, zB_t, zB_f]; done)
                | (have hle : b ≤ a := by rw [← hlt]; assumption
                   have hab : ¬ a < b := by omega
                   simp_all [mold, zB_t, zB_f]; done)
        · refine w_iload_n dX10_isAhead_66 rfl ?_
          refine w_iload_n dX10_isAhead_67 rfl ?_
          refine w_icmp_ge (tgt := 75) dX10_isAhead_68 (by decide) (fun c_68 => ?_) (fun c_68 => ?_)
          · refine w_iconst (v := 0) dX10_isAhead_75 (by decide) ?_
            refine w_istore dX10_isAhead_76 (by decide) rfl ?_
            refine w_iload dX10_isAhead_78 rfl ?_
            refine w_iconst (v := 3) dX10_isAhead_80 (by decide) ?_
            refine w_icmp_ne (tgt := 97) dX10_isAhead_81 (by decide) (fun c_81 => ?_) (fun c_81 => ?_)
            · refine w_iload dX10_isAhead_97 rfl ?_
              have hx : ¬ (tie = 2 ∧ zbit (I t 14) (nI a) ≠ zbit (I t 14) (nI b)) := by
                intro hh
                first | exact c_23 hh.1 | exact hh.2 (zB_inj.mp c_30)
              refine w_ret dX10_isAhead_99 ⟨?_, rfl, rfl⟩
              unfold mah
              rw [if_neg hx]
              have hlt : (nI b ≤ nI a) ↔ b ≤ a := by rw [ti_le, nI_toInt (by omega), nI_toInt (by omega)]; omega
              first
                | (simp [mold, zB_t, zB_f, *]; done)
                | (simp_all [mold, zB_t, zB_f]; done)
                | (have hle : ¬ b ≤ a := by rw [← hlt]; assumption
                   have hab : a < b := by omega
                   simp [mold, zB_t, zB_f, *]; done)
                | (have hle : b ≤ a := by rw [← hlt]; assumption
                   have hab : ¬ a < b := by omega
                   simp [mold, zB_t, zB_f, *]; done)
                | (have hle : ¬ b ≤ a := by rw [← hlt]; assumption
                   have hab : a < b := by omega
                   simp_all [mold, zB_t, zB_f]; done)
                | (have hle : b ≤ a := by rw [← hlt]; assumption
                   have hab : ¬ a < b := by omega
                   simp_all [mold, zB_t, zB_f]; done)
            · refine w_iload dX10_isAhead_84 rfl ?_
              refine w_if_ne (tgt := 93) dX10_isAhead_86 (by decide) (fun c_86 => ?_) (fun c_86 => ?_)
              · refine w_iconst (v := 0) dX10_isAhead_93 (by decide) ?_
                refine w_goto (tgt := 99) dX10_isAhead_94 (by decide) ?_
                have hx : ¬ (tie = 2 ∧ zbit (I t 14) (nI a) ≠ zbit (I t 14) (nI b)) := by
                  intro hh
                  first | exact c_23 hh.1 | exact hh.2 (zB_inj.mp c_30)
                refine w_ret dX10_isAhead_99 ⟨?_, rfl, rfl⟩
                unfold mah
                rw [if_neg hx]
                have hlt : (nI b ≤ nI a) ↔ b ≤ a := by rw [ti_le, nI_toInt (by omega), nI_toInt (by omega)]; omega
                first
                  | (simp [mold, zB_t, zB_f, *]; done)
                  | (simp_all [mold, zB_t, zB_f]; done)
                  | (have hle : ¬ b ≤ a := by rw [← hlt]; assumption
                     have hab : a < b := by omega
                     simp [mold, zB_t, zB_f, *]; done)
                  | (have hle : b ≤ a := by rw [← hlt]; assumption
                     have hab : ¬ a < b := by omega
                     simp [mold, zB_t, zB_f, *]; done)
                  | (have hle : ¬ b ≤ a := by rw [← hlt]; assumption
                     have hab : a < b := by omega
                     simp_all [mold, zB_t, zB_f]; done)
                  | (have hle : b ≤ a := by rw [← hlt]; assumption
                     have hab : ¬ a < b := by omega
                     simp_all [mold, zB_t, zB_f]; done)
              · refine w_iconst (v := 1) dX10_isAhead_89 (by decide) ?_
                refine w_goto (tgt := 99) dX10_isAhead_90 (by decide) ?_
                have hx : ¬ (tie = 2 ∧ zbit (I t 14) (nI a) ≠ zbit (I t 14) (nI b)) := by
                  intro hh
                  first | exact c_23 hh.1 | exact hh.2 (zB_inj.mp c_30)
                refine w_ret dX10_isAhead_99 ⟨?_, rfl, rfl⟩
                unfold mah
                rw [if_neg hx]
                have hlt : (nI b ≤ nI a) ↔ b ≤ a := by rw [ti_le, nI_toInt (by omega), nI_toInt (by omega)]; omega
                first
                  | (simp [mold, zB_t, zB_f, *]; done)
                  | (simp_all [mold, zB_t, zB_f]; done)
                  | (have hle : ¬ b ≤ a := by rw [← hlt]; assumption
                     have hab : a < b := by omega
                     simp [mold, zB_t, zB_f, *]; done)
                  | (have hle : b ≤ a := by rw [← hlt]; assumption
                     have hab : ¬ a < b := by omega
                     simp [mold, zB_t, zB_f, *]; done)
                  | (have hle : ¬ b ≤ a := by rw [← hlt]; assumption
                     have hab : a < b := by omega
                     simp_all [mold, zB_t, zB_f]; done)
                  | (have hle : b ≤ a := by rw [← hlt]; assumption
                     have hab : ¬ a < b := by omega
                     simp_all [mold, zB_t, zB_f]; done)
          · refine w_iconst (v := 1) dX10_isAhead_71 (by decide) ?_
            refine w_goto (tgt := 76) dX10_isAhead_72 (by decide) ?_
            refine w_istore dX10_isAhead_76 (by decide) rfl ?_
            refine w_iload dX10_isAhead_78 rfl ?_
            refine w_iconst (v := 3) dX10_isAhead_80 (by decide) ?_
            refine w_icmp_ne (tgt := 97) dX10_isAhead_81 (by decide) (fun c_81 => ?_) (fun c_81 => ?_)
            · refine w_iload dX10_isAhead_97 rfl ?_
              have hx : ¬ (tie = 2 ∧ zbit (I t 14) (nI a) ≠ zbit (I t 14) (nI b)) := by
                intro hh
                first | exact c_23 hh.1 | exact hh.2 (zB_inj.mp c_30)
              refine w_ret dX10_isAhead_99 ⟨?_, rfl, rfl⟩
              unfold mah
              rw [if_neg hx]
              have hlt : (nI b ≤ nI a) ↔ b ≤ a := by rw [ti_le, nI_toInt (by omega), nI_toInt (by omega)]; omega
              first
                | (simp [mold, zB_t, zB_f, *]; done)
                | (simp_all [mold, zB_t, zB_f]; done)
                | (have hle : ¬ b ≤ a := by rw [← hlt]; assumption
                   have hab : a < b := by omega
                   simp [mold, zB_t, zB_f, *]; done)
                | (have hle : b ≤ a := by rw [← hlt]; assumption
                   have hab : ¬ a < b := by omega
                   simp [mold, zB_t, zB_f, *]; done)
                | (have hle : ¬ b ≤ a := by rw [← hlt]; assumption
                   have hab : a < b := by omega
                   simp_all [mold, zB_t, zB_f]; done)
                | (have hle : b ≤ a := by rw [← hlt]; assumption
                   have hab : ¬ a < b := by omega
                   simp_all [mold, zB_t, zB_f]; done)
            · refine w_iload dX10_isAhead_84 rfl ?_
              refine w_if_ne (tgt := 93) dX10_isAhead_86 (by decide) (fun c_86 => ?_) (fun c_86 => ?_)
              · refine w_iconst (v := 0) dX10_isAhead_93 (by decide) ?_
                refine w_goto (tgt := 99) dX10_isAhead_94 (by decide) ?_
                have hx : ¬ (tie = 2 ∧ zbit (I t 14) (nI a) ≠ zbit (I t 14) (nI b)) := by
                  intro hh
                  first | exact c_23 hh.1 | exact hh.2 (zB_inj.mp c_30)
                refine w_ret dX10_isAhead_99 ⟨?_, rfl, rfl⟩
                unfold mah
                rw [if_neg hx]
                have hlt : (nI b ≤ nI a) ↔ b ≤ a := by rw [ti_le, nI_toInt (by omega), nI_toInt (by omega)]; omega
                first
                  | (simp [mold, zB_t, zB_f, *]; done)
                  | (simp_all [mold, zB_t, zB_f]; done)
                  | (have hle : ¬ b ≤ a := by rw [← hlt]; assumption
                     have hab : a < b := by omega
                     simp [mold, zB_t, zB_f, *]; done)
                  | (have hle : b ≤ a := by rw [← hlt]; assumption
                     have hab : ¬ a < b := by omega
                     simp [mold, zB_t, zB_f, *]; done)
                  | (have hle : ¬ b ≤ a := by rw [← hlt]; assumption
                     have hab : a < b := by omega
                     simp_all [mold, zB_t, zB_f]; done)
                  | (have hle : b ≤ a := by rw [← hlt]; assumption
                     have hab : ¬ a < b := by omega
                     simp_all [mold, zB_t, zB_f]; done)
              · refine w_iconst (v := 1) dX10_isAhead_89 (by decide) ?_
                refine w_goto (tgt := 99) dX10_isAhead_90 (by decide) ?_
                have hx : ¬ (tie = 2 ∧ zbit (I t 14) (nI a) ≠ zbit (I t 14) (nI b)) := by
                  intro hh
                  first | exact c_23 hh.1 | exact hh.2 (zB_inj.mp c_30)
                refine w_ret dX10_isAhead_99 ⟨?_, rfl, rfl⟩
                unfold mah
                rw [if_neg hx]
                have hlt : (nI b ≤ nI a) ↔ b ≤ a := by rw [ti_le, nI_toInt (by omega), nI_toInt (by omega)]; omega
                first
                  | (simp [mold, zB_t, zB_f, *]; done)
                  | (simp_all [mold, zB_t, zB_f]; done)
                  | (have hle : ¬ b ≤ a := by rw [← hlt]; assumption
                     have hab : a < b := by omega
                     simp [mold, zB_t, zB_f, *]; done)
                  | (have hle : b ≤ a := by rw [← hlt]; assumption
                     have hab : ¬ a < b := by omega
                     simp [mold, zB_t, zB_f, *]; done)
                  | (have hle : ¬ b ≤ a := by rw [← hlt]; assumption
                     have hab : a < b := by omega
                     simp_all [mold, zB_t, zB_f]; done)
                  | (have hle : b ≤ a := by rw [← hlt]; assumption
                     have hab : ¬ a < b := by omega
                     simp_all [mold, zB_t, zB_f]; done)
    · refine w_iload dX10_isAhead_33 rfl ?_
      exact w_ret dX10_isAhead_35 ⟨by unfold mah; rw [if_pos ⟨c_23, fun e => c_30 (congrArg zB e)⟩], rfl, rfl⟩
