/-- n people at the land t -/
def FM (I : Mem) (t n : Nat) : Prop := I t 3 = nI n ∧ n ≤ 7
/-- parents are told ahead -/
def FV (n : Nat) (pr : Nat → Int32) : Prop := ∀ k, k < n → ∀ j, j < 7 → pr k = nI j → j < k
def wI (I : Mem) (t k : Nat) : Bool := zbit (I t 2) (nI k)
def kI (I : Mem) (t n q : Nat) : Nat := fkm (I (t + 1)) (nI q) n
def ahI (I : Mem) (t : Nat) (tie : Int32) : Nat → Nat → Bool := fah (wI I t) (I (t + 2)) tie
def noI (I : Mem) (t : Nat) (tie : Int32) (p : Nat) : Bool := decide (tie = 0) && wI I t p
theorem FM.has {I : Mem} {t n j : Nat} (h : FM I t n) (hj : j < n) : zhas I t (nI j) = true := by
  have h7 := h.2
  simp only [zhas, h.1, Bool.and_eq_true, Bool.not_eq_true', decide_eq_false_iff_not]
  refine ⟨⟨nI_pos (by omega), ?_⟩, ?_⟩
  · exact nI_ge hj (by omega)
  · exact nI_ge (b := 7) (by omega) (by decide)
theorem FM.ppl {I : Mem} {t n : Nat} (h : FM I t n) : zppl I t = n := by
  have h7 := h.2
  unfold zppl; rw [h.1, nI_clamp (by omega)]; omega
theorem FM.inv {I : Mem} {t n : Nat} {p : Int32} (h : FM I t n) (hp : zhas I t p = true) : ∃ j, j < n ∧ p = nI j := by
  obtain ⟨j, hj, rfl⟩ := zhas_in hp
  have h7 := h.2
  refine ⟨j, ?_, rfl⟩
  simp only [zhas, h.1, Bool.and_eq_true, Bool.not_eq_true', decide_eq_false_iff_not] at hp
  exact Nat.lt_of_not_le fun q => hp.1.2 (nI_le q (by omega))
theorem FM.wom {I : Mem} {t n j : Nat} (h : FM I t n) (hj : j < n) : zwom I t (nI j) = wI I t j := by
  unfold zwom wI; rw [h.has hj, Bool.true_and]
theorem FM.age {I : Mem} {t n j : Nat} (h : FM I t n) (hj : j < n) : zage I t (nI j) = I (t + 2) j := by
  have h7 := h.2
  unfold zage; rw [if_pos (h.has hj), nI_clamp (by omega)]
theorem FM.par {I : Mem} {t n j : Nat} (h : FM I t n) (hj : j < n) : zpar I t (nI j) = I (t + 1) j := by
  have h7 := h.2
  unfold zpar; rw [if_pos (h.has hj), nI_clamp (by omega)]
theorem FM.kids {I : Mem} {t n j : Nat} (h : FM I t n) : zkids I t (nI j) (zppl I t) = nI (kI I t n j) := by
  rw [h.ppl, zkids_eq n h.2]; rfl
theorem kI_lt {I : Mem} {t n q : Nat} (hn : n ≤ 7) : kI I t n q < 128 := Nat.lt_of_lt_of_le (fkm_lt _ _ _) (by have := Nat.pow_le_pow_right (show 0 < 2 by decide) hn; omega)
theorem kI_in {I : Mem} {t n q c : Nat} (hv : FV n (I (t + 1))) (hq : q < 7) (h : (kI I t n q).testBit c = true) : c < n ∧ q < c := by
  unfold kI at h
  rw [fkm_bit] at h
  simp only [Bool.and_eq_true, decide_eq_true_eq] at h
  exact ⟨h.1, hv c h.1 q hq h.2⟩
theorem cn_has {t : Nat} (ht : t ∈ q_lands) {I : Mem} {J : Lng} {n j : Nat} (hF : FM I t n) (hj : j < n) : q_E yX6_has cX6_has 2 (some .boolean) 0 [.ref t, .int (nI j)] I J (some (.int 1)) I J := by
  have := c_X6_has ht (I := I) (J := J) (p := nI j)
  rwa [hF.has hj] at this
theorem cn_isWoman {t : Nat} (ht : t ∈ q_lands) {I : Mem} {J : Lng} {n j : Nat} (hF : FM I t n) (hj : j < n) : q_E yX6_isWoman cX6_isWoman 2 (some .boolean) 1 [.ref t, .int (nI j)] I J (some (.int (zB (wI I t j)))) I J := by
  have := c_X6_isWoman ht (I := I) (J := J) (p := nI j)
  rwa [hF.wom hj] at this
theorem cn_ageOf {t : Nat} (ht : t ∈ q_lands) {I : Mem} {J : Lng} {n j : Nat} (hF : FM I t n) (hj : j < n) : q_E yX6_ageOf cX6_ageOf 2 (some .int) 1 [.ref t, .int (nI j)] I J (some (.int (I (t + 2) j))) I J := by
  have := c_X6_ageOf ht (I := I) (J := J) (p := nI j)
  rwa [hF.age hj] at this
theorem cn_parentOf {t : Nat} (ht : t ∈ q_lands) {I : Mem} {J : Lng} {n j : Nat} (hF : FM I t n) (hj : j < n) : q_E yX6_parentOf cX6_parentOf 2 (some .int) 1 [.ref t, .int (nI j)] I J (some (.int (I (t + 1) j))) I J := by
  have := c_X6_parentOf ht (I := I) (J := J) (p := nI j)
  rwa [hF.par hj] at this
theorem cn_childrenOf {t : Nat} (ht : t ∈ q_lands) {I : Mem} {J : Lng} {n j : Nat} (hF : FM I t n) : q_E yX6_childrenOf cX6_childrenOf 4 (some .int) 0 [.ref t, .int (nI j)] I J (some (.int (nI (kI I t n j)))) I J := by
  have := c_X6_childrenOf ht (I := I) (J := J) (p := nI j)
  rwa [hF.kids] at this
theorem fah_w {w : Nat → Bool} {ag : Nat → Int32} {tie : Int32} {k j : Nat} (h : tie = 2) (hw : ¬ w k = w j) : fah w ag tie k j = w k := if_pos ⟨h, hw⟩
theorem fah_o {w : Nat → Bool} {ag : Nat → Int32} {tie : Int32} {k j : Nat} (h : ¬ (tie = 2 ∧ w k ≠ w j)) (hkj : j < k) : fah w ag tie k j = (decide (ag j < ag k) != decide (tie = 3)) := by
  unfold fah
  rw [if_neg h]
  have h1 : ¬ k < j := by omega
  by_cases h3 : tie = 3
  · simp [h3, h1]
  · simp [h3, h1]
theorem bit_01 (x : Int32) : x &&& 1 = 0 ∨ x &&& 1 = 1 := by
  have h : x.toBitVec &&& 1#32 = 0#32 ∨ x.toBitVec &&& 1#32 = 1#32 := by
    rw [BitVec.and_one_eq_setWidth_ofBool_getLsbD]
    cases x.toBitVec.getLsbD 0
    · exact Or.inl rfl
    · exact Or.inr rfl
  rcases h with h | h
  · exact Or.inl (Int32.toBitVec_inj.mp h)
  · exact Or.inr (Int32.toBitVec_inj.mp h)
theorem zb_eq {s p q : Int32} (h : s >>> (p &&& 31) &&& 1 = s >>> (q &&& 31) &&& 1) : zbit s p = zbit s q := by
  unfold zbit; rw [h]
theorem zb_le {s p q : Int32} (h : ¬ s >>> (p &&& 31) &&& 1 = s >>> (q &&& 31) &&& 1) (h2 : s >>> (p &&& 31) &&& 1 ≤ s >>> (q &&& 31) &&& 1) : zbit s p = false ∧ zbit s q = true := by
  unfold zbit
  rcases bit_01 (s >>> (p &&& 31)) with a | a <;> rcases bit_01 (s >>> (q &&& 31)) with b | b <;> rw [a, b] at h h2 <;> rw [a, b]
  · exact absurd rfl h
  · exact ⟨rfl, rfl⟩
  · exact absurd h2 (by decide)
  · exact absurd rfl h
theorem zb_gt {s p q : Int32} (h2 : ¬ s >>> (p &&& 31) &&& 1 ≤ s >>> (q &&& 31) &&& 1) : zbit s p = true ∧ zbit s q = false := by
  unfold zbit
  rcases bit_01 (s >>> (p &&& 31)) with a | a <;> rcases bit_01 (s >>> (q &&& 31)) with b | b <;> rw [a, b] at h2 <;> rw [a, b]
  · exact absurd (by decide) h2
  · exact absurd (by decide) h2
  · exact ⟨rfl, rfl⟩
  · exact absurd (by decide) h2
set_option maxHeartbeats 4000000 in
set_option maxRecDepth 100000 in
theorem c_X6_goesAhead {t : Nat} (ht : t ∈ q_lands) {I : Mem} {J : Lng} {n j k : Nat} {tie : Int32} (hF : FM I t n) (hk : k < n) (hj : j < k) : q_E yX6_goesAhead cX6_goesAhead 7 (some .boolean) 0 [.ref t, .int (nI k), .int (nI j), .int tie] I J (some (.int (zB (ahI I t tie k j)))) (I) (J) := by
  obtain ⟨ht0, ht1, ht2⟩ := SH_land ht
  have hjn : j < n := by omega
  have hn7 := hF.2
  unfold ahI
  refine q_Ez (zB_01 _) me_X6_goesAhead rfl (Nat.le_of_ble_eq_true rfl) ?_
  show q_w _ _ _ _ _ _ _ 0 [some (.ref t), some (.int (nI k)), some (.int (nI j)), some (.int tie), none, none, none] [] I J
  refine w_iload_n dX6_goesAhead_0 rfl ?_
  refine w_if_lt (tgt := 15) dX6_goesAhead_1 (by decide) (fun c_1 => absurd c_1 (nI_pos (by omega))) (fun c_1 => ?_)
  refine w_iload_n dX6_goesAhead_4 rfl ?_
  refine w_iload_n dX6_goesAhead_5 rfl ?_
  refine w_icmp_le (tgt := 15) dX6_goesAhead_6 (by decide) (fun c_6 => absurd c_6 (nI_ge hj (by omega))) (fun c_6 => ?_)
  refine w_iload_n dX6_goesAhead_9 rfl ?_
  refine w_bipush (v := 7) dX6_goesAhead_10 (by decide) ?_
  refine w_icmp_lt (tgt := 17) dX6_goesAhead_12 (by decide) (fun c_12 => ?_) (fun c_12 => absurd (nI_lt (b := 7) (by omega) (by decide)) c_12)
  refine w_aload_n dX6_goesAhead_17 rfl ?_
  refine w_getI dX6_goesAhead_18 f_X6_22 (by first | assumption | rfl) rfl ?_
  refine w_iload_n dX6_goesAhead_21 rfl ?_
  refine w_ishr dX6_goesAhead_22 ?_
  refine w_iconst (v := 1) dX6_goesAhead_23 (by decide) ?_
  refine w_iand dX6_goesAhead_24 ?_
  refine w_istore dX6_goesAhead_25 (by decide) rfl ?_
  refine w_aload_n dX6_goesAhead_27 rfl ?_
  refine w_getI dX6_goesAhead_28 f_X6_22 (by first | assumption | rfl) rfl ?_
  refine w_iload_n dX6_goesAhead_31 rfl ?_
  refine w_ishr dX6_goesAhead_32 ?_
  refine w_iconst (v := 1) dX6_goesAhead_33 (by decide) ?_
  refine w_iand dX6_goesAhead_34 ?_
  refine w_istore dX6_goesAhead_35 (by decide) rfl ?_
  refine w_iload_n dX6_goesAhead_37 rfl ?_
  refine w_iconst (v := 2) dX6_goesAhead_38 (by decide) ?_
  refine w_icmp_ne (tgt := 62) dX6_goesAhead_39 (by decide) (fun c_39 => ?_) (fun c_39 => ?_)
  · rw [fah_o (by first | (intro h; exact c_39 h.1) | (intro h; exact h.2 (zb_eq c_46))) hj]
    refine w_aload_n dX6_goesAhead_62 rfl ?_
    refine w_getR dX6_goesAhead_63 f_X6_15 (by first | assumption | rfl) rfl rfl ?_
    refine w_iload_n dX6_goesAhead_66 rfl ?_
    refine w_iald (j := k) dX6_goesAhead_67 (by first | assumption | rfl) rfl rfl (by dsimp only; omega) (by decide) ?_
    refine w_aload_n dX6_goesAhead_68 rfl ?_
    refine w_getR dX6_goesAhead_69 f_X6_15 (by first | assumption | rfl) rfl rfl ?_
    refine w_iload_n dX6_goesAhead_72 rfl ?_
    refine w_iald (j := j) dX6_goesAhead_73 (by first | assumption | rfl) rfl rfl (by dsimp only; omega) (by decide) ?_
    refine w_icmp_le (tgt := 81) dX6_goesAhead_74 (by decide) (fun c_74 => ?_) (fun c_74 => ?_)
    · refine w_iconst (v := 0) dX6_goesAhead_81 (by decide) ?_
      refine w_istore dX6_goesAhead_82 (by decide) rfl ?_
      refine w_iload dX6_goesAhead_84 rfl ?_
      refine w_iload_n dX6_goesAhead_86 rfl ?_
      refine w_iconst (v := 3) dX6_goesAhead_87 (by decide) ?_
      refine w_icmp_ne (tgt := 95) dX6_goesAhead_88 (by decide) (fun c_88 => ?_) (fun c_88 => ?_)
      · refine w_iconst (v := 0) dX6_goesAhead_95 (by decide) ?_
        refine w_icmp_eq (tgt := 103) dX6_goesAhead_96 (by decide) (fun c_96 => ?_) (fun c_96 => ?_)
        · refine w_iconst (v := 0) dX6_goesAhead_103 (by decide) ?_
          refine w_ret dX6_goesAhead_104 ⟨?_, rfl, rfl⟩
          first | (have c74 := Int32.not_lt.mpr c_74; simp [zB_t, zB_f, c74, *]; done) | (simp_all [zB_t, zB_f]; done)
        · refine w_iconst (v := 1) dX6_goesAhead_99 (by decide) ?_
          refine w_goto (tgt := 104) dX6_goesAhead_100 (by decide) ?_
          refine w_ret dX6_goesAhead_104 ⟨?_, rfl, rfl⟩
          first | (have c74 := Int32.not_lt.mpr c_74; simp [zB_t, zB_f, c74, *]; done) | (simp_all [zB_t, zB_f]; done)
      · refine w_iconst (v := 1) dX6_goesAhead_91 (by decide) ?_
        refine w_goto (tgt := 96) dX6_goesAhead_92 (by decide) ?_
        refine w_icmp_eq (tgt := 103) dX6_goesAhead_96 (by decide) (fun c_96 => ?_) (fun c_96 => ?_)
        · refine w_iconst (v := 0) dX6_goesAhead_103 (by decide) ?_
          refine w_ret dX6_goesAhead_104 ⟨?_, rfl, rfl⟩
          first | (have c74 := Int32.not_lt.mpr c_74; simp [zB_t, zB_f, c74, *]; done) | (simp_all [zB_t, zB_f]; done)
        · refine w_iconst (v := 1) dX6_goesAhead_99 (by decide) ?_
          refine w_goto (tgt := 104) dX6_goesAhead_100 (by decide) ?_
          refine w_ret dX6_goesAhead_104 ⟨?_, rfl, rfl⟩
          first | (have c74 := Int32.not_lt.mpr c_74; simp [zB_t, zB_f, c74, *]; done) | (simp_all [zB_t, zB_f]; done)
    · refine w_iconst (v := 1) dX6_goesAhead_77 (by decide) ?_
      refine w_goto (tgt := 82) dX6_goesAhead_78 (by decide) ?_
      refine w_istore dX6_goesAhead_82 (by decide) rfl ?_
      refine w_iload dX6_goesAhead_84 rfl ?_
      refine w_iload_n dX6_goesAhead_86 rfl ?_
      refine w_iconst (v := 3) dX6_goesAhead_87 (by decide) ?_
      refine w_icmp_ne (tgt := 95) dX6_goesAhead_88 (by decide) (fun c_88 => ?_) (fun c_88 => ?_)
      · refine w_iconst (v := 0) dX6_goesAhead_95 (by decide) ?_
        refine w_icmp_eq (tgt := 103) dX6_goesAhead_96 (by decide) (fun c_96 => ?_) (fun c_96 => ?_)
        · refine w_iconst (v := 0) dX6_goesAhead_103 (by decide) ?_
          refine w_ret dX6_goesAhead_104 ⟨?_, rfl, rfl⟩
          first | (have c74 := Int32.not_lt.mpr c_74; simp [zB_t, zB_f, c74, *]; done) | (simp_all [zB_t, zB_f]; done)
        · refine w_iconst (v := 1) dX6_goesAhead_99 (by decide) ?_
          refine w_goto (tgt := 104) dX6_goesAhead_100 (by decide) ?_
          refine w_ret dX6_goesAhead_104 ⟨?_, rfl, rfl⟩
          first | (have c74 := Int32.not_lt.mpr c_74; simp [zB_t, zB_f, c74, *]; done) | (simp_all [zB_t, zB_f]; done)
      · refine w_iconst (v := 1) dX6_goesAhead_91 (by decide) ?_
        refine w_goto (tgt := 96) dX6_goesAhead_92 (by decide) ?_
        refine w_icmp_eq (tgt := 103) dX6_goesAhead_96 (by decide) (fun c_96 => ?_) (fun c_96 => ?_)
        · refine w_iconst (v := 0) dX6_goesAhead_103 (by decide) ?_
          refine w_ret dX6_goesAhead_104 ⟨?_, rfl, rfl⟩
          first | (have c74 := Int32.not_lt.mpr c_74; simp [zB_t, zB_f, c74, *]; done) | (simp_all [zB_t, zB_f]; done)
        · refine w_iconst (v := 1) dX6_goesAhead_99 (by decide) ?_
          refine w_goto (tgt := 104) dX6_goesAhead_100 (by decide) ?_
          refine w_ret dX6_goesAhead_104 ⟨?_, rfl, rfl⟩
          first | (have c74 := Int32.not_lt.mpr c_74; simp [zB_t, zB_f, c74, *]; done) | (simp_all [zB_t, zB_f]; done)
  · refine w_iload dX6_goesAhead_42 rfl ?_
    refine w_iload dX6_goesAhead_44 rfl ?_
    refine w_icmp_eq (tgt := 62) dX6_goesAhead_46 (by decide) (fun c_46 => ?_) (fun c_46 => ?_)
    · rw [fah_o (by first | (intro h; exact c_39 h.1) | (intro h; exact h.2 (zb_eq c_46))) hj]
      refine w_aload_n dX6_goesAhead_62 rfl ?_
      refine w_getR dX6_goesAhead_63 f_X6_15 (by first | assumption | rfl) rfl rfl ?_
      refine w_iload_n dX6_goesAhead_66 rfl ?_
      refine w_iald (j := k) dX6_goesAhead_67 (by first | assumption | rfl) rfl rfl (by dsimp only; omega) (by decide) ?_
      refine w_aload_n dX6_goesAhead_68 rfl ?_
      refine w_getR dX6_goesAhead_69 f_X6_15 (by first | assumption | rfl) rfl rfl ?_
      refine w_iload_n dX6_goesAhead_72 rfl ?_
      refine w_iald (j := j) dX6_goesAhead_73 (by first | assumption | rfl) rfl rfl (by dsimp only; omega) (by decide) ?_
      refine w_icmp_le (tgt := 81) dX6_goesAhead_74 (by decide) (fun c_74 => ?_) (fun c_74 => ?_)
      · refine w_iconst (v := 0) dX6_goesAhead_81 (by decide) ?_
        refine w_istore dX6_goesAhead_82 (by decide) rfl ?_
        refine w_iload dX6_goesAhead_84 rfl ?_
        refine w_iload_n dX6_goesAhead_86 rfl ?_
        refine w_iconst (v := 3) dX6_goesAhead_87 (by decide) ?_
        refine w_icmp_ne (tgt := 95) dX6_goesAhead_88 (by decide) (fun c_88 => ?_) (fun c_88 => ?_)
        · refine w_iconst (v := 0) dX6_goesAhead_95 (by decide) ?_
          refine w_icmp_eq (tgt := 103) dX6_goesAhead_96 (by decide) (fun c_96 => ?_) (fun c_96 => ?_)
          · refine w_iconst (v := 0) dX6_goesAhead_103 (by decide) ?_
            refine w_ret dX6_goesAhead_104 ⟨?_, rfl, rfl⟩
            first | (have c74 := Int32.not_lt.mpr c_74; simp [zB_t, zB_f, c74, *]; done) | (simp_all [zB_t, zB_f]; done)
          · refine w_iconst (v := 1) dX6_goesAhead_99 (by decide) ?_
            refine w_goto (tgt := 104) dX6_goesAhead_100 (by decide) ?_
            refine w_ret dX6_goesAhead_104 ⟨?_, rfl, rfl⟩
            first | (have c74 := Int32.not_lt.mpr c_74; simp [zB_t, zB_f, c74, *]; done) | (simp_all [zB_t, zB_f]; done)
        · refine w_iconst (v := 1) dX6_goesAhead_91 (by decide) ?_
          refine w_goto (tgt := 96) dX6_goesAhead_92 (by decide) ?_
          refine w_icmp_eq (tgt := 103) dX6_goesAhead_96 (by decide) (fun c_96 => ?_) (fun c_96 => ?_)
          · refine w_iconst (v := 0) dX6_goesAhead_103 (by decide) ?_
            refine w_ret dX6_goesAhead_104 ⟨?_, rfl, rfl⟩
            first | (have c74 := Int32.not_lt.mpr c_74; simp [zB_t, zB_f, c74, *]; done) | (simp_all [zB_t, zB_f]; done)
          · refine w_iconst (v := 1) dX6_goesAhead_99 (by decide) ?_
            refine w_goto (tgt := 104) dX6_goesAhead_100 (by decide) ?_
            refine w_ret dX6_goesAhead_104 ⟨?_, rfl, rfl⟩
            first | (have c74 := Int32.not_lt.mpr c_74; simp [zB_t, zB_f, c74, *]; done) | (simp_all [zB_t, zB_f]; done)
      · refine w_iconst (v := 1) dX6_goesAhead_77 (by decide) ?_
        refine w_goto (tgt := 82) dX6_goesAhead_78 (by decide) ?_
        refine w_istore dX6_goesAhead_82 (by decide) rfl ?_
        refine w_iload dX6_goesAhead_84 rfl ?_
        refine w_iload_n dX6_goesAhead_86 rfl ?_
        refine w_iconst (v := 3) dX6_goesAhead_87 (by decide) ?_
        refine w_icmp_ne (tgt := 95) dX6_goesAhead_88 (by decide) (fun c_88 => ?_) (fun c_88 => ?_)
        · refine w_iconst (v := 0) dX6_goesAhead_95 (by decide) ?_
          refine w_icmp_eq (tgt := 103) dX6_goesAhead_96 (by decide) (fun c_96 => ?_) (fun c_96 => ?_)
          · refine w_iconst (v := 0) dX6_goesAhead_103 (by decide) ?_
            refine w_ret dX6_goesAhead_104 ⟨?_, rfl, rfl⟩
            first | (have c74 := Int32.not_lt.mpr c_74; simp [zB_t, zB_f, c74, *]; done) | (simp_all [zB_t, zB_f]; done)
          · refine w_iconst (v := 1) dX6_goesAhead_99 (by decide) ?_
            refine w_goto (tgt := 104) dX6_goesAhead_100 (by decide) ?_
            refine w_ret dX6_goesAhead_104 ⟨?_, rfl, rfl⟩
            first | (have c74 := Int32.not_lt.mpr c_74; simp [zB_t, zB_f, c74, *]; done) | (simp_all [zB_t, zB_f]; done)
        · refine w_iconst (v := 1) dX6_goesAhead_91 (by decide) ?_
          refine w_goto (tgt := 96) dX6_goesAhead_92 (by decide) ?_
          refine w_icmp_eq (tgt := 103) dX6_goesAhead_96 (by decide) (fun c_96 => ?_) (fun c_96 => ?_)
          · refine w_iconst (v := 0) dX6_goesAhead_103 (by decide) ?_
            refine w_ret dX6_goesAhead_104 ⟨?_, rfl, rfl⟩
            first | (have c74 := Int32.not_lt.mpr c_74; simp [zB_t, zB_f, c74, *]; done) | (simp_all [zB_t, zB_f]; done)
          · refine w_iconst (v := 1) dX6_goesAhead_99 (by decide) ?_
            refine w_goto (tgt := 104) dX6_goesAhead_100 (by decide) ?_
            refine w_ret dX6_goesAhead_104 ⟨?_, rfl, rfl⟩
            first | (have c74 := Int32.not_lt.mpr c_74; simp [zB_t, zB_f, c74, *]; done) | (simp_all [zB_t, zB_f]; done)
    · refine w_iload dX6_goesAhead_49 rfl ?_
      refine w_iload dX6_goesAhead_51 rfl ?_
      refine w_icmp_le (tgt := 60) dX6_goesAhead_53 (by decide) (fun c_53 => ?_) (fun c_53 => ?_)
      · refine w_iconst (v := 0) dX6_goesAhead_60 (by decide) ?_
        have hz := zb_le c_46 c_53
        exact w_ret dX6_goesAhead_61 ⟨by rw [fah_w c_39 (show ¬ wI I t k = wI I t j by unfold wI; rw [hz.1, hz.2]; decide), show wI I t k = false from hz.1]; rfl, rfl, rfl⟩
      · refine w_iconst (v := 1) dX6_goesAhead_56 (by decide) ?_
        refine w_goto (tgt := 61) dX6_goesAhead_57 (by decide) ?_
        have hz := zb_gt c_53
        exact w_ret dX6_goesAhead_61 ⟨by rw [fah_w c_39 (show ¬ wI I t k = wI I t j by unfold wI; rw [hz.1, hz.2]; decide), show wI I t k = true from hz.1]; rfl, rfl, rfl⟩
/-- a person or nobody -/
def oI (o : Option Nat) : Int32 := match o with
  | none => -9
  | some f => nI f
theorem zbit_t {m k : Nat} (hm : m < 128) (hk : k < 7) (h : nI m >>> (nI k &&& 31) &&& 1 = 1) : m.testBit k = true := by
  rw [← mI_bit m hm k hk]; simp [zbit, h]
theorem zbit_f {m k : Nat} (hm : m < 128) (hk : k < 7) (h : ¬ nI m >>> (nI k &&& 31) &&& 1 = 1) : m.testBit k = false := by
  rw [← mI_bit m hm k hk]; simp [zbit, h]
theorem lt7 {k : Nat} (h : ¬ (7 : Int32) ≤ nI k) (hk : k ≤ 7) : k < 7 := Nat.lt_of_not_le fun q => h (by rw [show k = 7 by omega]; decide)
theorem ge7 {k : Nat} (h : (7 : Int32) ≤ nI k) (hk : k ≤ 7) : k = 7 := by
  rcases Nat.lt_or_ge k 7 with q | q
  · exact absurd h (nI_ge (b := 7) q (by decide))
  · omega
set_option maxHeartbeats 4000000 in
set_option maxRecDepth 100000 in
theorem l_X6_firstChild {t : Nat} (ht : t ∈ q_lands) {I : Mem} {J : Lng} {n m : Nat} {tie : Int32} (hF : FM I t n) (hm : m < 128) (hmn : ∀ j, m.testBit j = true → j < n) : ∀ (r k : Nat) (o : Int32), 7 - k = r → k ≤ 7 → o = oI (fpick (ahI I t tie) m k) → q_w yX6_firstChild.cls yX6_firstChild.name cX6_firstChild 5 .ireturn 1 (fun st I1 J1 => st = [.int (oI (fpick (ahI I t tie) m 7))] ∧ I1 = I ∧ J1 = J) 6 [some (.ref t), some (.int (nI m)), some (.int tie), some (.int o), some (.int (nI k))] [] (I) (J) := by
  obtain ⟨ht0, ht1, ht2⟩ := SH_land ht
  intro r
  induction r with
  | zero =>
    intro k o hr hk ho
    obtain rfl : k = 7 := by omega
    subst ho
    refine w_iload dX6_firstChild_6 rfl ?_
    refine w_bipush (v := 7) dX6_firstChild_8 (by decide) ?_
    refine w_icmp_ge (tgt := 49) dX6_firstChild_10 (by decide) (fun c_10 => ?_) (fun c_10 => absurd (show (7 : Int32) ≤ nI 7 by decide) c_10)
    refine w_iload_n dX6_firstChild_49 rfl ?_
    exact w_ret dX6_firstChild_50 ⟨rfl, rfl, rfl⟩
  | succ r ih =>
    intro k o hr hk ho
    have hk7 : k < 7 := by omega
    have hrec : fpick (ahI I t tie) m (k + 1) = match fpick (ahI I t tie) m k with
      | none => if m.testBit k then some k else none
      | some f => if m.testBit k && ahI I t tie k f then some k else some f := rfl
    cases hf : fpick (ahI I t tie) m k with
    | none =>
      rw [hf] at ho hrec
      subst ho
      dsimp only at hrec
      refine w_iload dX6_firstChild_6 rfl ?_
      refine w_bipush (v := 7) dX6_firstChild_8 (by decide) ?_
      refine w_icmp_ge (tgt := 49) dX6_firstChild_10 (by decide) (fun c_10 => absurd c_10 (nI_ge (b := 7) hk7 (by decide))) (fun c_10 => ?_)
      refine w_iload_n dX6_firstChild_13 rfl ?_
      refine w_iload dX6_firstChild_14 rfl ?_
      refine w_ishr dX6_firstChild_16 ?_
      refine w_iconst (v := 1) dX6_firstChild_17 (by decide) ?_
      refine w_iand dX6_firstChild_18 ?_
      refine w_iconst (v := 1) dX6_firstChild_19 (by decide) ?_
      refine w_icmp_ne (tgt := 43) dX6_firstChild_20 (by decide) (fun c_20 => ?_) (fun c_20 => ?_)
      · refine w_iincv (c := 1) dX6_firstChild_43 (by decide) rfl (by decide) rfl ?_
        refine w_goto (tgt := 6) dX6_firstChild_46 (by decide) ?_
        rw [nI_1]
        exact ih (k + 1) _ (by omega) (by omega) (by rw [hrec, zbit_f hm hk7 c_20]; rfl)
      · refine w_iload_n dX6_firstChild_23 rfl ?_
        refine w_bipush (v := (-9)) dX6_firstChild_24 (by decide) ?_
        refine w_icmp_eq (tgt := 40) dX6_firstChild_26 (by decide) (fun c_26 => ?_) (fun c_26 => absurd (show oI none = -9 from rfl) c_26)
        refine w_iload dX6_firstChild_40 rfl ?_
        refine w_istore_n dX6_firstChild_42 (by decide) rfl ?_
        refine w_iincv (c := 1) dX6_firstChild_43 (by decide) rfl (by decide) rfl ?_
        refine w_goto (tgt := 6) dX6_firstChild_46 (by decide) ?_
        rw [nI_1]
        exact ih (k + 1) _ (by omega) (by omega) (by rw [hrec, zbit_t hm hk7 c_20]; rfl)
    | some f =>
      rw [hf] at ho hrec
      subst ho
      dsimp only at hrec
      have hfk := (fpick_in hf).1
      refine w_iload dX6_firstChild_6 rfl ?_
      refine w_bipush (v := 7) dX6_firstChild_8 (by decide) ?_
      refine w_icmp_ge (tgt := 49) dX6_firstChild_10 (by decide) (fun c_10 => absurd c_10 (nI_ge (b := 7) hk7 (by decide))) (fun c_10 => ?_)
      refine w_iload_n dX6_firstChild_13 rfl ?_
      refine w_iload dX6_firstChild_14 rfl ?_
      refine w_ishr dX6_firstChild_16 ?_
      refine w_iconst (v := 1) dX6_firstChild_17 (by decide) ?_
      refine w_iand dX6_firstChild_18 ?_
      refine w_iconst (v := 1) dX6_firstChild_19 (by decide) ?_
      refine w_icmp_ne (tgt := 43) dX6_firstChild_20 (by decide) (fun c_20 => ?_) (fun c_20 => ?_)
      · refine w_iincv (c := 1) dX6_firstChild_43 (by decide) rfl (by decide) rfl ?_
        refine w_goto (tgt := 6) dX6_firstChild_46 (by decide) ?_
        rw [nI_1]
        exact ih (k + 1) _ (by omega) (by omega) (by rw [hrec, zbit_f hm hk7 c_20, Bool.false_and] <;> rfl)
      · refine w_iload_n dX6_firstChild_23 rfl ?_
        refine w_bipush (v := (-9)) dX6_firstChild_24 (by decide) ?_
        refine w_icmp_eq (tgt := 40) dX6_firstChild_26 (by decide) (fun c_26 => absurd c_26 (nI_ne9 (by omega))) (fun c_26 => ?_)
        refine w_aload_n dX6_firstChild_29 rfl ?_
        refine w_iload dX6_firstChild_30 rfl ?_
        refine w_iload_n dX6_firstChild_32 rfl ?_
        refine w_iload_n dX6_firstChild_33 rfl ?_
        refine w_callVi dX6_firstChild_34 k_X6_53 (by first | assumption | rfl) rfl (c_X6_goesAhead ht hF (hmn k (zbit_t hm hk7 c_20)) hfk) rfl rfl rfl (Nat.le_of_ble_eq_true rfl) (by first | decide | omega) ?_
        refine w_if_eq (tgt := 43) dX6_firstChild_37 (by decide) (fun c_37 => ?_) (fun c_37 => ?_)
        · refine w_iincv (c := 1) dX6_firstChild_43 (by decide) rfl (by decide) rfl ?_
          refine w_goto (tgt := 6) dX6_firstChild_46 (by decide) ?_
          rw [nI_1]
          exact ih (k + 1) _ (by omega) (by omega) (by rw [hrec, zbit_t hm hk7 c_20, Bool.true_and, if_neg (by rw [zB_eq0.mp c_37]; decide)] <;> rfl)
        · refine w_iload dX6_firstChild_40 rfl ?_
          refine w_istore_n dX6_firstChild_42 (by decide) rfl ?_
          refine w_iincv (c := 1) dX6_firstChild_43 (by decide) rfl (by decide) rfl ?_
          refine w_goto (tgt := 6) dX6_firstChild_46 (by decide) ?_
          rw [nI_1]
          exact ih (k + 1) _ (by omega) (by omega) (by rw [hrec, zbit_t hm hk7 c_20, Bool.true_and, if_pos (by simpa [zB_eq0] using c_37)] <;> rfl)
set_option maxHeartbeats 4000000 in
set_option maxRecDepth 100000 in
theorem c_X6_firstChild {t : Nat} (ht : t ∈ q_lands) {I : Mem} {J : Lng} {n m : Nat} {tie : Int32} (hF : FM I t n) (hm : m < 128) (hmn : ∀ j, m.testBit j = true → j < n) : q_E yX6_firstChild cX6_firstChild 5 (some .int) 1 [.ref t, .int (nI m), .int tie] I J (some (.int (oI (fpick (ahI I t tie) m 7)))) (I) (J) := by
  refine q_Ei me_X6_firstChild rfl (Nat.le_of_ble_eq_true rfl) ?_
  show q_w _ _ _ _ _ _ _ 0 [some (.ref t), some (.int (nI m)), some (.int tie), none, none] [] I J
  refine w_bipush (v := (-9)) dX6_firstChild_0 (by decide) ?_
  refine w_istore_n dX6_firstChild_2 (by decide) rfl ?_
  refine w_iconst (v := 0) dX6_firstChild_3 (by decide) ?_
  refine w_istore dX6_firstChild_4 (by decide) rfl ?_
  exact l_X6_firstChild ht hF hm hmn _ 0 (-9) rfl (by decide) rfl
