/-- n people at the land t -/
def FM (I : Mem) (t n : Nat) : Prop := I t 3 = nI n ∧ n ≤ 7
/-- parents are told ahead -/
def FV (n : Nat) (pr : Nat → Int32) : Prop := ∀ k, k < n → ∀ j, j < 7 → pr k = nI j → j < k
def wI (I : Mem) (t k : Nat) : Bool := zbit (I t 2) (nI k)
def kI (I : Mem) (t n q : Nat) : Nat := fkm (I (t + 1)) (nI q) n
def ahI (I : Mem) (t : Nat) (tie : Int32) : Nat → Nat → Bool := fah (wI I t) (I (t + 2)) tie
def noI (I : Mem) (t : Nat) (tie : Int32) (p : Nat) : Bool := decide (tie = 0) && wI I t p
theorem FM.has {I : Mem} {t n j : Nat} (h : FM I t n) (hj : j < n) : zhas I t (nI j) = true := by
  have h7 := h.2
  simp only [zhas, h.1, Bool.and_eq_true, Bool.not_eq_true', decide_eq_false_iff_not]
  refine ⟨⟨nI_pos (by omega), ?_⟩, ?_⟩
  · exact nI_ge hj (by omega)
  · exact nI_ge (b := 7) (by omega) (by decide)
theorem FM.ppl {I : Mem} {t n : Nat} (h : FM I t n) : zppl I t = n := by
  have h7 := h.2
  unfold zppl; rw [h.1, nI_clamp (by omega)]; omega
theorem FM.inv {I : Mem} {t n : Nat} {p : Int32} (h : FM I t n) (hp : zhas I t p = true) : ∃ j, j < n ∧ p = nI j := by
  obtain ⟨j, hj, rfl⟩ := zhas_in hp
  have h7 := h.2
  refine ⟨j, ?_, rfl⟩
  simp only [zhas, h.1, Bool.and_eq_true, Bool.not_eq_true', decide_eq_false_iff_not] at hp
  exact Nat.lt_of_not_le fun q => hp.1.2 (nI_le q (by omega))
theorem FM.wom {I : Mem} {t n j : Nat} (h : FM I t n) (hj : j < n) : zwom I t (nI j) = wI I t j := by
  unfold zwom wI; rw [h.has hj, Bool.true_and]
theorem FM.age {I : Mem} {t n j : Nat} (h : FM I t n) (hj : j < n) : zage I t (nI j) = I (t + 2) j := by
  have h7 := h.2
  unfold zage; rw [if_pos (h.has hj), nI_clamp (by omega)]
theorem FM.par {I : Mem} {t n j : Nat} (h : FM I t n) (hj : j < n) : zpar I t (nI j) = I (t + 1) j := by
  have h7 := h.2
  unfold zpar; rw [if_pos (h.has hj), nI_clamp (by omega)]
theorem FM.kids {I : Mem} {t n j : Nat} (h : FM I t n) : zkids I t (nI j) (zppl I t) = nI (kI I t n j) := by
  rw [h.ppl, zkids_eq n h.2]; rfl
theorem kI_lt {I : Mem} {t n q : Nat} (hn : n ≤ 7) : kI I t n q < 128 := Nat.lt_of_lt_of_le (fkm_lt _ _ _) (by have := Nat.pow_le_pow_right (show 0 < 2 by decide) hn; omega)
theorem kI_in {I : Mem} {t n q c : Nat} (hv : FV n (I (t + 1))) (hq : q < 7) (h : (kI I t n q).testBit c = true) : c < n ∧ q < c := by
  unfold kI at h
  rw [fkm_bit] at h
  simp only [Bool.and_eq_true, decide_eq_true_eq] at h
  exact ⟨h.1, hv c h.1 q hq h.2⟩
theorem cn_has {t : Nat} (ht : t ∈ q_lands) {I : Mem} {J : Lng} {n j : Nat} (hF : FM I t n) (hj : j < n) : q_E yX6_has cX6_has 2 (some .boolean) 0 [.ref t, .int (nI j)] I J (some (.int 1)) I J := by
  have := c_X6_has ht (I := I) (J := J) (p := nI j)
  rwa [hF.has hj] at this
theorem cn_isWoman {t : Nat} (ht : t ∈ q_lands) {I : Mem} {J : Lng} {n j : Nat} (hF : FM I t n) (hj : j < n) : q_E yX6_isWoman cX6_isWoman 2 (some .boolean) 1 [.ref t, .int (nI j)] I J (some (.int (zB (wI I t j)))) I J := by
  have := c_X6_isWoman ht (I := I) (J := J) (p := nI j)
  rwa [hF.wom hj] at this
theorem cn_ageOf {t : Nat} (ht : t ∈ q_lands) {I : Mem} {J : Lng} {n j : Nat} (hF : FM I t n) (hj : j < n) : q_E yX6_ageOf cX6_ageOf 2 (some .int) 1 [.ref t, .int (nI j)] I J (some (.int (I (t + 2) j))) I J := by
  have := c_X6_ageOf ht (I := I) (J := J) (p := nI j)
  rwa [hF.age hj] at this
theorem cn_parentOf {t : Nat} (ht : t ∈ q_lands) {I : Mem} {J : Lng} {n j : Nat} (hF : FM I t n) (hj : j < n) : q_E yX6_parentOf cX6_parentOf 2 (some .int) 1 [.ref t, .int (nI j)] I J (some (.int (I (t + 1) j))) I J := by
  have := c_X6_parentOf ht (I := I) (J := J) (p := nI j)
  rwa [hF.par hj] at this
theorem cn_childrenOf {t : Nat} (ht : t ∈ q_lands) {I : Mem} {J : Lng} {n j : Nat} (hF : FM I t n) : q_E yX6_childrenOf cX6_childrenOf 4 (some .int) 0 [.ref t, .int (nI j)] I J (some (.int (nI (kI I t n j)))) I J := by
  have := c_X6_childrenOf ht (I := I) (J := J) (p := nI j)
  rwa [hF.kids] at this
theorem fah_w {w : Nat → Bool} {ag : Nat → Int32} {tie : Int32} {k j : Nat} (h : tie = 2) (hw : ¬ w k = w j) : fah w ag tie k j = w k := if_pos ⟨h, hw⟩
theorem fah_o {w : Nat → Bool} {ag : Nat → Int32} {tie : Int32} {k j : Nat} (h : ¬ (tie = 2 ∧ w k ≠ w j)) (hkj : j < k) : fah w ag tie k j = (decide (ag j < ag k) != decide (tie = 3)) := by
  unfold fah
  rw [if_neg h]
  have h1 : ¬ k < j := by omega
  by_cases h3 : tie = 3
  · simp [h3, h1]
  · simp [h3, h1]
set_option maxHeartbeats 4000000 in
set_option maxRecDepth 100000 in
theorem c_X5_goesAhead {t : Nat} (ht : t ∈ q_lands) {I : Mem} {J : Lng} {n j k : Nat} {tie : Int32} (hF : FM I t n) (hk : k < n) (hj : j < k) : q_E yX5_goesAhead cX5_goesAhead 5 (some .boolean) 2 [.ref t, .int (nI k), .int (nI j), .int tie] I J (some (.int (zB (ahI I t tie k j)))) (I) (J) := by
  obtain ⟨ht0, ht1, ht2⟩ := SH_land ht
  have hjn : j < n := by omega
  unfold ahI
  refine q_Ez (zB_01 _) me_X5_goesAhead rfl (Nat.le_of_ble_eq_true rfl) ?_
  show q_w _ _ _ _ _ _ _ 0 [some (.ref t), some (.int (nI k)), some (.int (nI j)), some (.int tie), none] [] I J
  refine w_iload_n dX5_goesAhead_0 rfl ?_
  refine w_iconst (v := 2) dX5_goesAhead_1 (by decide) ?_
  refine w_icmp_ne (tgt := 24) dX5_goesAhead_2 (by decide) (fun c_2 => ?_) (fun c_2 => ?_)
  · rw [fah_o (by first | (intro h; exact c_2 h.1) | (intro h; exact h.2 (zB_inj.mp c_15))) hj]
    refine w_aload_n dX5_goesAhead_24 rfl ?_
    refine w_iload_n dX5_goesAhead_25 rfl ?_
    refine w_callVi dX5_goesAhead_26 k_X5_53 (by first | assumption | rfl) rfl (cn_ageOf ht hF hk) rfl rfl rfl (Nat.le_of_ble_eq_true rfl) (by first | decide | omega) ?_
    refine w_aload_n dX5_goesAhead_29 rfl ?_
    refine w_iload_n dX5_goesAhead_30 rfl ?_
    refine w_callVi dX5_goesAhead_31 k_X5_53 (by first | assumption | rfl) rfl (cn_ageOf ht hF hjn) rfl rfl rfl (Nat.le_of_ble_eq_true rfl) (by first | decide | omega) ?_
    refine w_icmp_le (tgt := 41) dX5_goesAhead_34 (by decide) (fun c_34 => ?_) (fun c_34 => ?_)
    · refine w_iconst (v := 0) dX5_goesAhead_41 (by decide) ?_
      refine w_istore dX5_goesAhead_42 (by decide) rfl ?_
      refine w_iload dX5_goesAhead_44 rfl ?_
      refine w_iload_n dX5_goesAhead_46 rfl ?_
      refine w_iconst (v := 3) dX5_goesAhead_47 (by decide) ?_
      refine w_icmp_ne (tgt := 55) dX5_goesAhead_48 (by decide) (fun c_48 => ?_) (fun c_48 => ?_)
      · refine w_iconst (v := 0) dX5_goesAhead_55 (by decide) ?_
        refine w_icmp_eq (tgt := 63) dX5_goesAhead_56 (by decide) (fun c_56 => ?_) (fun c_56 => ?_)
        · refine w_iconst (v := 0) dX5_goesAhead_63 (by decide) ?_
          refine w_ret dX5_goesAhead_64 ⟨?_, rfl, rfl⟩
          first | (have c34 := Int32.not_lt.mpr c_34; simp [zB_t, zB_f, c34, *]; done) | (simp_all [zB_t, zB_f]; done)
        · refine w_iconst (v := 1) dX5_goesAhead_59 (by decide) ?_
          refine w_goto (tgt := 64) dX5_goesAhead_60 (by decide) ?_
          refine w_ret dX5_goesAhead_64 ⟨?_, rfl, rfl⟩
          first | (have c34 := Int32.not_lt.mpr c_34; simp [zB_t, zB_f, c34, *]; done) | (simp_all [zB_t, zB_f]; done)
      · refine w_iconst (v := 1) dX5_goesAhead_51 (by decide) ?_
        refine w_goto (tgt := 56) dX5_goesAhead_52 (by decide) ?_
        refine w_icmp_eq (tgt := 63) dX5_goesAhead_56 (by decide) (fun c_56 => ?_) (fun c_56 => ?_)
        · refine w_iconst (v := 0) dX5_goesAhead_63 (by decide) ?_
          refine w_ret dX5_goesAhead_64 ⟨?_, rfl, rfl⟩
          first | (have c34 := Int32.not_lt.mpr c_34; simp [zB_t, zB_f, c34, *]; done) | (simp_all [zB_t, zB_f]; done)
        · refine w_iconst (v := 1) dX5_goesAhead_59 (by decide) ?_
          refine w_goto (tgt := 64) dX5_goesAhead_60 (by decide) ?_
          refine w_ret dX5_goesAhead_64 ⟨?_, rfl, rfl⟩
          first | (have c34 := Int32.not_lt.mpr c_34; simp [zB_t, zB_f, c34, *]; done) | (simp_all [zB_t, zB_f]; done)
    · refine w_iconst (v := 1) dX5_goesAhead_37 (by decide) ?_
      refine w_goto (tgt := 42) dX5_goesAhead_38 (by decide) ?_
      refine w_istore dX5_goesAhead_42 (by decide) rfl ?_
      refine w_iload dX5_goesAhead_44 rfl ?_
      refine w_iload_n dX5_goesAhead_46 rfl ?_
      refine w_iconst (v := 3) dX5_goesAhead_47 (by decide) ?_
      refine w_icmp_ne (tgt := 55) dX5_goesAhead_48 (by decide) (fun c_48 => ?_) (fun c_48 => ?_)
      · refine w_iconst (v := 0) dX5_goesAhead_55 (by decide) ?_
        refine w_icmp_eq (tgt := 63) dX5_goesAhead_56 (by decide) (fun c_56 => ?_) (fun c_56 => ?_)
        · refine w_iconst (v := 0) dX5_goesAhead_63 (by decide) ?_
          refine w_ret dX5_goesAhead_64 ⟨?_, rfl, rfl⟩
          first | (have c34 := Int32.not_lt.mpr c_34; simp [zB_t, zB_f, c34, *]; done) | (simp_all [zB_t, zB_f]; done)
        · refine w_iconst (v := 1) dX5_goesAhead_59 (by decide) ?_
          refine w_goto (tgt := 64) dX5_goesAhead_60 (by decide) ?_
          refine w_ret dX5_goesAhead_64 ⟨?_, rfl, rfl⟩
          first | (have c34 := Int32.not_lt.mpr c_34; simp [zB_t, zB_f, c34, *]; done) | (simp_all [zB_t, zB_f]; done)
      · refine w_iconst (v := 1) dX5_goesAhead_51 (by decide) ?_
        refine w_goto (tgt := 56) dX5_goesAhead_52 (by decide) ?_
        refine w_icmp_eq (tgt := 63) dX5_goesAhead_56 (by decide) (fun c_56 => ?_) (fun c_56 => ?_)
        · refine w_iconst (v := 0) dX5_goesAhead_63 (by decide) ?_
          refine w_ret dX5_goesAhead_64 ⟨?_, rfl, rfl⟩
          first | (have c34 := Int32.not_lt.mpr c_34; simp [zB_t, zB_f, c34, *]; done) | (simp_all [zB_t, zB_f]; done)
        · refine w_iconst (v := 1) dX5_goesAhead_59 (by decide) ?_
          refine w_goto (tgt := 64) dX5_goesAhead_60 (by decide) ?_
          refine w_ret dX5_goesAhead_64 ⟨?_, rfl, rfl⟩
          first | (have c34 := Int32.not_lt.mpr c_34; simp [zB_t, zB_f, c34, *]; done) | (simp_all [zB_t, zB_f]; done)
  · refine w_aload_n dX5_goesAhead_5 rfl ?_
    refine w_iload_n dX5_goesAhead_6 rfl ?_
    refine w_callVi dX5_goesAhead_7 k_X5_39 (by first | assumption | rfl) rfl (cn_isWoman ht hF hk) rfl rfl rfl (Nat.le_of_ble_eq_true rfl) (by first | decide | omega) ?_
    refine w_aload_n dX5_goesAhead_10 rfl ?_
    refine w_iload_n dX5_goesAhead_11 rfl ?_
    refine w_callVi dX5_goesAhead_12 k_X5_39 (by first | assumption | rfl) rfl (cn_isWoman ht hF hjn) rfl rfl rfl (Nat.le_of_ble_eq_true rfl) (by first | decide | omega) ?_
    refine w_icmp_eq (tgt := 24) dX5_goesAhead_15 (by decide) (fun c_15 => ?_) (fun c_15 => ?_)
    · rw [fah_o (by first | (intro h; exact c_2 h.1) | (intro h; exact h.2 (zB_inj.mp c_15))) hj]
      refine w_aload_n dX5_goesAhead_24 rfl ?_
      refine w_iload_n dX5_goesAhead_25 rfl ?_
      refine w_callVi dX5_goesAhead_26 k_X5_53 (by first | assumption | rfl) rfl (cn_ageOf ht hF hk) rfl rfl rfl (Nat.le_of_ble_eq_true rfl) (by first | decide | omega) ?_
      refine w_aload_n dX5_goesAhead_29 rfl ?_
      refine w_iload_n dX5_goesAhead_30 rfl ?_
      refine w_callVi dX5_goesAhead_31 k_X5_53 (by first | assumption | rfl) rfl (cn_ageOf ht hF hjn) rfl rfl rfl (Nat.le_of_ble_eq_true rfl) (by first | decide | omega) ?_
      refine w_icmp_le (tgt := 41) dX5_goesAhead_34 (by decide) (fun c_34 => ?_) (fun c_34 => ?_)
      · refine w_iconst (v := 0) dX5_goesAhead_41 (by decide) ?_
        refine w_istore dX5_goesAhead_42 (by decide) rfl ?_
        refine w_iload dX5_goesAhead_44 rfl ?_
        refine w_iload_n dX5_goesAhead_46 rfl ?_
        refine w_iconst (v := 3) dX5_goesAhead_47 (by decide) ?_
        refine w_icmp_ne (tgt := 55) dX5_goesAhead_48 (by decide) (fun c_48 => ?_) (fun c_48 => ?_)
        · refine w_iconst (v := 0) dX5_goesAhead_55 (by decide) ?_
          refine w_icmp_eq (tgt := 63) dX5_goesAhead_56 (by decide) (fun c_56 => ?_) (fun c_56 => ?_)
          · refine w_iconst (v := 0) dX5_goesAhead_63 (by decide) ?_
            refine w_ret dX5_goesAhead_64 ⟨?_, rfl, rfl⟩
            first | (have c34 := Int32.not_lt.mpr c_34; simp [zB_t, zB_f, c34, *]; done) | (simp_all [zB_t, zB_f]; done)
          · refine w_iconst (v := 1) dX5_goesAhead_59 (by decide) ?_
            refine w_goto (tgt := 64) dX5_goesAhead_60 (by decide) ?_
            refine w_ret dX5_goesAhead_64 ⟨?_, rfl, rfl⟩
            first | (have c34 := Int32.not_lt.mpr c_34; simp [zB_t, zB_f, c34, *]; done) | (simp_all [zB_t, zB_f]; done)
        · refine w_iconst (v := 1) dX5_goesAhead_51 (by decide) ?_
          refine w_goto (tgt := 56) dX5_goesAhead_52 (by decide) ?_
          refine w_icmp_eq (tgt := 63) dX5_goesAhead_56 (by decide) (fun c_56 => ?_) (fun c_56 => ?_)
          · refine w_iconst (v := 0) dX5_goesAhead_63 (by decide) ?_
            refine w_ret dX5_goesAhead_64 ⟨?_, rfl, rfl⟩
            first | (have c34 := Int32.not_lt.mpr c_34; simp [zB_t, zB_f, c34, *]; done) | (simp_all [zB_t, zB_f]; done)
          · refine w_iconst (v := 1) dX5_goesAhead_59 (by decide) ?_
            refine w_goto (tgt := 64) dX5_goesAhead_60 (by decide) ?_
            refine w_ret dX5_goesAhead_64 ⟨?_, rfl, rfl⟩
            first | (have c34 := Int32.not_lt.mpr c_34; simp [zB_t, zB_f, c34, *]; done) | (simp_all [zB_t, zB_f]; done)
      · refine w_iconst (v := 1) dX5_goesAhead_37 (by decide) ?_
        refine w_goto (tgt := 42) dX5_goesAhead_38 (by decide) ?_
        refine w_istore dX5_goesAhead_42 (by decide) rfl ?_
        refine w_iload dX5_goesAhead_44 rfl ?_
        refine w_iload_n dX5_goesAhead_46 rfl ?_
        refine w_iconst (v := 3) dX5_goesAhead_47 (by decide) ?_
        refine w_icmp_ne (tgt := 55) dX5_goesAhead_48 (by decide) (fun c_48 => ?_) (fun c_48 => ?_)
        · refine w_iconst (v := 0) dX5_goesAhead_55 (by decide) ?_
          refine w_icmp_eq (tgt := 63) dX5_goesAhead_56 (by decide) (fun c_56 => ?_) (fun c_56 => ?_)
          · refine w_iconst (v := 0) dX5_goesAhead_63 (by decide) ?_
            refine w_ret dX5_goesAhead_64 ⟨?_, rfl, rfl⟩
            first | (have c34 := Int32.not_lt.mpr c_34; simp [zB_t, zB_f, c34, *]; done) | (simp_all [zB_t, zB_f]; done)
          · refine w_iconst (v := 1) dX5_goesAhead_59 (by decide) ?_
            refine w_goto (tgt := 64) dX5_goesAhead_60 (by decide) ?_
            refine w_ret dX5_goesAhead_64 ⟨?_, rfl, rfl⟩
            first | (have c34 := Int32.not_lt.mpr c_34; simp [zB_t, zB_f, c34, *]; done) | (simp_all [zB_t, zB_f]; done)
        · refine w_iconst (v := 1) dX5_goesAhead_51 (by decide) ?_
          refine w_goto (tgt := 56) dX5_goesAhead_52 (by decide) ?_
          refine w_icmp_eq (tgt := 63) dX5_goesAhead_56 (by decide) (fun c_56 => ?_) (fun c_56 => ?_)
          · refine w_iconst (v := 0) dX5_goesAhead_63 (by decide) ?_
            refine w_ret dX5_goesAhead_64 ⟨?_, rfl, rfl⟩
            first | (have c34 := Int32.not_lt.mpr c_34; simp [zB_t, zB_f, c34, *]; done) | (simp_all [zB_t, zB_f]; done)
          · refine w_iconst (v := 1) dX5_goesAhead_59 (by decide) ?_
            refine w_goto (tgt := 64) dX5_goesAhead_60 (by decide) ?_
            refine w_ret dX5_goesAhead_64 ⟨?_, rfl, rfl⟩
            first | (have c34 := Int32.not_lt.mpr c_34; simp [zB_t, zB_f, c34, *]; done) | (simp_all [zB_t, zB_f]; done)
    · refine w_aload_n dX5_goesAhead_18 rfl ?_
      refine w_iload_n dX5_goesAhead_19 rfl ?_
      refine w_callVi dX5_goesAhead_20 k_X5_39 (by first | assumption | rfl) rfl (cn_isWoman ht hF hk) rfl rfl rfl (Nat.le_of_ble_eq_true rfl) (by first | decide | omega) ?_
      exact w_ret dX5_goesAhead_23 ⟨by rw [fah_w c_2 (fun h => c_15 (by rw [h]))], rfl, rfl⟩
/-- a person or nobody -/
def oI (o : Option Nat) : Int32 := match o with
  | none => -9
  | some f => nI f
theorem zbit_t {m k : Nat} (hm : m < 128) (hk : k < 7) (h : nI m >>> (nI k &&& 31) &&& 1 = 1) : m.testBit k = true := by
  rw [← mI_bit m hm k hk]; simp [zbit, h]
theorem zbit_f {m k : Nat} (hm : m < 128) (hk : k < 7) (h : ¬ nI m >>> (nI k &&& 31) &&& 1 = 1) : m.testBit k = false := by
  rw [← mI_bit m hm k hk]; simp [zbit, h]
theorem lt7 {k : Nat} (h : ¬ (7 : Int32) ≤ nI k) (hk : k ≤ 7) : k < 7 := Nat.lt_of_not_le fun q => h (by rw [show k = 7 by omega]; decide)
theorem ge7 {k : Nat} (h : (7 : Int32) ≤ nI k) (hk : k ≤ 7) : k = 7 := by
  rcases Nat.lt_or_ge k 7 with q | q
  · exact absurd h (nI_ge (b := 7) q (by decide))
  · omega
set_option maxHeartbeats 4000000 in
set_option maxRecDepth 100000 in
theorem l_X5_firstChild {t : Nat} (ht : t ∈ q_lands) {I : Mem} {J : Lng} {n m : Nat} {tie : Int32} (hF : FM I t n) (hm : m < 128) (hmn : ∀ j, m.testBit j = true → j < n) : ∀ (r k : Nat) (o : Int32), 7 - k = r → k ≤ 7 → o = oI (fpick (ahI I t tie) m k) → q_w yX5_firstChild.cls yX5_firstChild.name cX5_firstChild 5 .ireturn 3 (fun st I1 J1 => st = [.int (oI (fpick (ahI I t tie) m 7))] ∧ I1 = I ∧ J1 = J) 6 [some (.ref t), some (.int (nI m)), some (.int tie), some (.int o), some (.int (nI k))] [] (I) (J) := by
  obtain ⟨ht0, ht1, ht2⟩ := SH_land ht
  intro r
  induction r with
  | zero =>
    intro k o hr hk ho
    obtain rfl : k = 7 := by omega
    subst ho
    refine w_iload dX5_firstChild_6 rfl ?_
    refine w_bipush (v := 7) dX5_firstChild_8 (by decide) ?_
    refine w_icmp_ge (tgt := 49) dX5_firstChild_10 (by decide) (fun c_10 => ?_) (fun c_10 => absurd (show (7 : Int32) ≤ nI 7 by decide) c_10)
    refine w_iload_n dX5_firstChild_49 rfl ?_
    exact w_ret dX5_firstChild_50 ⟨rfl, rfl, rfl⟩
  | succ r ih =>
    intro k o hr hk ho
    have hk7 : k < 7 := by omega
    have hrec : fpick (ahI I t tie) m (k + 1) = match fpick (ahI I t tie) m k with
      | none => if m.testBit k then some k else none
      | some f => if m.testBit k && ahI I t tie k f then some k else some f := rfl
    cases hf : fpick (ahI I t tie) m k with
    | none =>
      rw [hf] at ho hrec
      subst ho
      dsimp only at hrec
      refine w_iload dX5_firstChild_6 rfl ?_
      refine w_bipush (v := 7) dX5_firstChild_8 (by decide) ?_
      refine w_icmp_ge (tgt := 49) dX5_firstChild_10 (by decide) (fun c_10 => absurd c_10 (nI_ge (b := 7) hk7 (by decide))) (fun c_10 => ?_)
      refine w_iload_n dX5_firstChild_13 rfl ?_
      refine w_iload dX5_firstChild_14 rfl ?_
      refine w_ishr dX5_firstChild_16 ?_
      refine w_iconst (v := 1) dX5_firstChild_17 (by decide) ?_
      refine w_iand dX5_firstChild_18 ?_
      refine w_iconst (v := 1) dX5_firstChild_19 (by decide) ?_
      refine w_icmp_ne (tgt := 43) dX5_firstChild_20 (by decide) (fun c_20 => ?_) (fun c_20 => ?_)
      · refine w_iincv (c := 1) dX5_firstChild_43 (by decide) rfl (by decide) rfl ?_
        refine w_goto (tgt := 6) dX5_firstChild_46 (by decide) ?_
        rw [nI_1]
        exact ih (k + 1) _ (by omega) (by omega) (by rw [hrec, zbit_f hm hk7 c_20]; rfl)
      · refine w_iload_n dX5_firstChild_23 rfl ?_
        refine w_bipush (v := (-9)) dX5_firstChild_24 (by decide) ?_
        refine w_icmp_eq (tgt := 40) dX5_firstChild_26 (by decide) (fun c_26 => ?_) (fun c_26 => absurd (show oI none = -9 from rfl) c_26)
        refine w_iload dX5_firstChild_40 rfl ?_
        refine w_istore_n dX5_firstChild_42 (by decide) rfl ?_
        refine w_iincv (c := 1) dX5_firstChild_43 (by decide) rfl (by decide) rfl ?_
        refine w_goto (tgt := 6) dX5_firstChild_46 (by decide) ?_
        rw [nI_1]
        exact ih (k + 1) _ (by omega) (by omega) (by rw [hrec, zbit_t hm hk7 c_20]; rfl)
    | some f =>
      rw [hf] at ho hrec
      subst ho
      dsimp only at hrec
      have hfk := (fpick_in hf).1
      refine w_iload dX5_firstChild_6 rfl ?_
      refine w_bipush (v := 7) dX5_firstChild_8 (by decide) ?_
      refine w_icmp_ge (tgt := 49) dX5_firstChild_10 (by decide) (fun c_10 => absurd c_10 (nI_ge (b := 7) hk7 (by decide))) (fun c_10 => ?_)
      refine w_iload_n dX5_firstChild_13 rfl ?_
      refine w_iload dX5_firstChild_14 rfl ?_
      refine w_ishr dX5_firstChild_16 ?_
      refine w_iconst (v := 1) dX5_firstChild_17 (by decide) ?_
      refine w_iand dX5_firstChild_18 ?_
      refine w_iconst (v := 1) dX5_firstChild_19 (by decide) ?_
      refine w_icmp_ne (tgt := 43) dX5_firstChild_20 (by decide) (fun c_20 => ?_) (fun c_20 => ?_)
      · refine w_iincv (c := 1) dX5_firstChild_43 (by decide) rfl (by decide) rfl ?_
        refine w_goto (tgt := 6) dX5_firstChild_46 (by decide) ?_
        rw [nI_1]
        exact ih (k + 1) _ (by omega) (by omega) (by rw [hrec, zbit_f hm hk7 c_20, Bool.false_and] <;> rfl)
      · refine w_iload_n dX5_firstChild_23 rfl ?_
        refine w_bipush (v := (-9)) dX5_firstChild_24 (by decide) ?_
        refine w_icmp_eq (tgt := 40) dX5_firstChild_26 (by decide) (fun c_26 => absurd c_26 (nI_ne9 (by omega))) (fun c_26 => ?_)
        refine w_aload_n dX5_firstChild_29 rfl ?_
        refine w_iload dX5_firstChild_30 rfl ?_
        refine w_iload_n dX5_firstChild_32 rfl ?_
        refine w_iload_n dX5_firstChild_33 rfl ?_
        refine w_callSi dX5_firstChild_34 k_X5_49 (c_X5_goesAhead ht hF (hmn k (zbit_t hm hk7 c_20)) hfk) rfl rfl rfl (Nat.le_of_ble_eq_true rfl) (by first | decide | omega) ?_
        refine w_if_eq (tgt := 43) dX5_firstChild_37 (by decide) (fun c_37 => ?_) (fun c_37 => ?_)
        · refine w_iincv (c := 1) dX5_firstChild_43 (by decide) rfl (by decide) rfl ?_
          refine w_goto (tgt := 6) dX5_firstChild_46 (by decide) ?_
          rw [nI_1]
          exact ih (k + 1) _ (by omega) (by omega) (by rw [hrec, zbit_t hm hk7 c_20, Bool.true_and, if_neg (by rw [zB_eq0.mp c_37]; decide)] <;> rfl)
        · refine w_iload dX5_firstChild_40 rfl ?_
          refine w_istore_n dX5_firstChild_42 (by decide) rfl ?_
          refine w_iincv (c := 1) dX5_firstChild_43 (by decide) rfl (by decide) rfl ?_
          refine w_goto (tgt := 6) dX5_firstChild_46 (by decide) ?_
          rw [nI_1]
          exact ih (k + 1) _ (by omega) (by omega) (by rw [hrec, zbit_t hm hk7 c_20, Bool.true_and, if_pos (by simpa [zB_eq0] using c_37)] <;> rfl)
set_option maxHeartbeats 4000000 in
set_option maxRecDepth 100000 in
theorem c_X5_firstChild {t : Nat} (ht : t ∈ q_lands) {I : Mem} {J : Lng} {n m : Nat} {tie : Int32} (hF : FM I t n) (hm : m < 128) (hmn : ∀ j, m.testBit j = true → j < n) : q_E yX5_firstChild cX5_firstChild 5 (some .int) 3 [.ref t, .int (nI m), .int tie] I J (some (.int (oI (fpick (ahI I t tie) m 7)))) (I) (J) := by
  refine q_Ei me_X5_firstChild rfl (Nat.le_of_ble_eq_true rfl) ?_
  show q_w _ _ _ _ _ _ _ 0 [some (.ref t), some (.int (nI m)), some (.int tie), none, none] [] I J
  refine w_bipush (v := (-9)) dX5_firstChild_0 (by decide) ?_
  refine w_istore_n dX5_firstChild_2 (by decide) rfl ?_
  refine w_iconst (v := 0) dX5_firstChild_3 (by decide) ?_
  refine w_istore dX5_firstChild_4 (by decide) rfl ?_
  exact l_X5_firstChild ht hF hm hmn _ 0 (-9) rfl (by decide) rfl
