/-- the person is there -/
def zhas (I : Mem) (t : Nat) (p : Int32) : Bool := !decide (p < 0) && !decide (I t 3 ≤ p) && !decide (7 ≤ p)
/-- a bit of a set -/
def zbit (s p : Int32) : Bool := decide (s >>> (p &&& 31) &&& 1 = 1)
def zlives (I : Mem) (t : Nat) (p : Int32) : Bool := zhas I t p && zbit (I t 4) p
def zwom (I : Mem) (t : Nat) (p : Int32) : Bool := zhas I t p && zbit (I t 2) p
/-- a person's place, if it is there -/
theorem zhas_in {I : Mem} {t : Nat} {p : Int32} (h : zhas I t p = true) : ∃ j, j < 7 ∧ p = nI j := by
  simp only [zhas, Bool.and_eq_true, Bool.not_eq_true', decide_eq_false_iff_not] at h
  obtain ⟨⟨h1, -⟩, h2⟩ := h
  rcases pk_ix p (n := 7) (by decide) with h | h | h
  · exact absurd h h1
  · exact absurd h h2
  · exact h
def zpar (I : Mem) (t : Nat) (p : Int32) : Int32 := if zhas I t p then I (t + 1) p.toNatClampNeg else -9
def zage (I : Mem) (t : Nat) (p : Int32) : Int32 := if zhas I t p then I (t + 2) p.toNatClampNeg else 0
/-- children, out of the first k people -/
def zkids (I : Mem) (t : Nat) (p : Int32) : Nat → Int32
  | 0 => 0
  | k + 1 => if I (t + 1) k = p then zkids I t p k ||| (1 <<< (nI k &&& 31)) else zkids I t p k
/-- how many are looked at -/
def zppl (I : Mem) (t : Nat) : Nat := min (I t 3).toNatClampNeg 7
theorem zppl_lt {I : Mem} {t k : Nat} (h1 : ¬ I t 3 ≤ nI k) (h2 : ¬ (7 : Int32) ≤ nI k) (hk : k ≤ 7) : k < zppl I t := by
  rw [ti_le] at h1 h2
  rw [nI_toInt (by omega)] at h1 h2
  have h3 : (7 : Int32).toInt = 7 := by decide
  rw [h3] at h2
  unfold zppl
  have h4 : (I t 3).toNatClampNeg = (I t 3).toInt.toNat := rfl
  omega
theorem zppl_end {I : Mem} {t k : Nat} (hk : k ≤ zppl I t) (h : I t 3 ≤ nI k ∨ (7 : Int32) ≤ nI k) : k = zppl I t := by
  have h4 : (I t 3).toNatClampNeg = (I t 3).toInt.toNat := rfl
  have h3 : (7 : Int32).toInt = 7 := by decide
  unfold zppl at hk ⊢
  rcases h with h | h
  · rw [ti_le, nI_toInt (by omega)] at h; omega
  · rw [ti_le, nI_toInt (by omega), h3] at h; omega
theorem zppl_7 (I : Mem) (t : Nat) : zppl I t ≤ 7 := Nat.min_le_right _ _
set_option maxHeartbeats 4000000 in
set_option maxRecDepth 100000 in
theorem c_X6_has {t : Nat} (ht : t ∈ q_lands) {I : Mem} {J : Lng} {p : Int32} : q_E yX6_has cX6_has 2 (some .boolean) 0 [.ref t, .int p] I J (some (.int (zB (zhas I t p)))) (I) (J) := by
  obtain ⟨ht0, ht1, ht2⟩ := SH_land ht
  refine q_Ez (zB_01 _) me_X6_has rfl (Nat.le_of_ble_eq_true rfl) ?_
  show q_w _ _ _ _ _ _ _ 0 [some (.ref t), some (.int p)] [] I J
  refine w_iload_n dX6_has_0 rfl ?_
  refine w_if_lt (tgt := 22) dX6_has_1 (by decide) (fun c_1 => ?_) (fun c_1 => ?_)
  · refine w_iconst (v := 0) dX6_has_22 (by decide) ?_
    refine w_ret dX6_has_23 ⟨?_, rfl, rfl⟩
    first | (simp [zB_eq0, zB_t, zB_f, zhas, *]; done) | (simp_all [zB_eq0, zB_t, zB_f, zhas]; done)
  · refine w_iload_n dX6_has_4 rfl ?_
    refine w_aload_n dX6_has_5 rfl ?_
    refine w_getI dX6_has_6 f_X6_25 (by first | assumption | rfl) rfl ?_
    refine w_icmp_ge (tgt := 22) dX6_has_9 (by decide) (fun c_9 => ?_) (fun c_9 => ?_)
    · refine w_iconst (v := 0) dX6_has_22 (by decide) ?_
      refine w_ret dX6_has_23 ⟨?_, rfl, rfl⟩
      first | (simp [zB_eq0, zB_t, zB_f, zhas, *]; done) | (simp_all [zB_eq0, zB_t, zB_f, zhas]; done)
    · refine w_iload_n dX6_has_12 rfl ?_
      refine w_bipush (v := 7) dX6_has_13 (by decide) ?_
      refine w_icmp_ge (tgt := 22) dX6_has_15 (by decide) (fun c_15 => ?_) (fun c_15 => ?_)
      · refine w_iconst (v := 0) dX6_has_22 (by decide) ?_
        refine w_ret dX6_has_23 ⟨?_, rfl, rfl⟩
        first | (simp [zB_eq0, zB_t, zB_f, zhas, *]; done) | (simp_all [zB_eq0, zB_t, zB_f, zhas]; done)
      · refine w_iconst (v := 1) dX6_has_18 (by decide) ?_
        refine w_goto (tgt := 23) dX6_has_19 (by decide) ?_
        refine w_ret dX6_has_23 ⟨?_, rfl, rfl⟩
        first | (simp [zB_eq0, zB_t, zB_f, zhas, *]; done) | (simp_all [zB_eq0, zB_t, zB_f, zhas]; done)
set_option maxHeartbeats 4000000 in
set_option maxRecDepth 100000 in
theorem c_X6_lives {t : Nat} (ht : t ∈ q_lands) {I : Mem} {J : Lng} {p : Int32} : q_E yX6_lives cX6_lives 2 (some .boolean) 1 [.ref t, .int p] I J (some (.int (zB (zlives I t p)))) (I) (J) := by
  obtain ⟨ht0, ht1, ht2⟩ := SH_land ht
  refine q_Ez (zB_01 _) me_X6_lives rfl (Nat.le_of_ble_eq_true rfl) ?_
  show q_w _ _ _ _ _ _ _ 0 [some (.ref t), some (.int p)] [] I J
  refine w_aload_n dX6_lives_0 rfl ?_
  refine w_iload_n dX6_lives_1 rfl ?_
  refine w_callVi dX6_lives_2 k_X6_49 (by first | assumption | rfl) rfl (c_X6_has ht) rfl rfl rfl (Nat.le_of_ble_eq_true rfl) (by first | decide | omega) ?_
  refine w_if_eq (tgt := 24) dX6_lives_5 (by decide) (fun c_5 => ?_) (fun c_5 => ?_)
  · refine w_iconst (v := 0) dX6_lives_24 (by decide) ?_
    refine w_ret dX6_lives_25 ⟨?_, rfl, rfl⟩
    first | (simp [zB_eq0, zB_t, zB_f, zlives, zbit, *]; done) | (simp_all [zB_eq0, zB_t, zB_f, zlives, zbit]; done)
  · refine w_aload_n dX6_lives_8 rfl ?_
    refine w_getI dX6_lives_9 f_X6_28 (by first | assumption | rfl) rfl ?_
    refine w_iload_n dX6_lives_12 rfl ?_
    refine w_ishr dX6_lives_13 ?_
    refine w_iconst (v := 1) dX6_lives_14 (by decide) ?_
    refine w_iand dX6_lives_15 ?_
    refine w_iconst (v := 1) dX6_lives_16 (by decide) ?_
    refine w_icmp_ne (tgt := 24) dX6_lives_17 (by decide) (fun c_17 => ?_) (fun c_17 => ?_)
    · refine w_iconst (v := 0) dX6_lives_24 (by decide) ?_
      refine w_ret dX6_lives_25 ⟨?_, rfl, rfl⟩
      first | (simp [zB_eq0, zB_t, zB_f, zlives, zbit, *]; done) | (simp_all [zB_eq0, zB_t, zB_f, zlives, zbit]; done)
    · refine w_iconst (v := 1) dX6_lives_20 (by decide) ?_
      refine w_goto (tgt := 25) dX6_lives_21 (by decide) ?_
      refine w_ret dX6_lives_25 ⟨?_, rfl, rfl⟩
      first | (simp [zB_eq0, zB_t, zB_f, zlives, zbit, *]; done) | (simp_all [zB_eq0, zB_t, zB_f, zlives, zbit]; done)
set_option maxHeartbeats 4000000 in
set_option maxRecDepth 100000 in
theorem c_X6_isWoman {t : Nat} (ht : t ∈ q_lands) {I : Mem} {J : Lng} {p : Int32} : q_E yX6_isWoman cX6_isWoman 2 (some .boolean) 1 [.ref t, .int p] I J (some (.int (zB (zwom I t p)))) (I) (J) := by
  obtain ⟨ht0, ht1, ht2⟩ := SH_land ht
  refine q_Ez (zB_01 _) me_X6_isWoman rfl (Nat.le_of_ble_eq_true rfl) ?_
  show q_w _ _ _ _ _ _ _ 0 [some (.ref t), some (.int p)] [] I J
  refine w_aload_n dX6_isWoman_0 rfl ?_
  refine w_iload_n dX6_isWoman_1 rfl ?_
  refine w_callVi dX6_isWoman_2 k_X6_49 (by first | assumption | rfl) rfl (c_X6_has ht) rfl rfl rfl (Nat.le_of_ble_eq_true rfl) (by first | decide | omega) ?_
  refine w_if_eq (tgt := 24) dX6_isWoman_5 (by decide) (fun c_5 => ?_) (fun c_5 => ?_)
  · refine w_iconst (v := 0) dX6_isWoman_24 (by decide) ?_
    refine w_ret dX6_isWoman_25 ⟨?_, rfl, rfl⟩
    first | (simp [zB_eq0, zB_t, zB_f, zwom, zbit, *]; done) | (simp_all [zB_eq0, zB_t, zB_f, zwom, zbit]; done)
  · refine w_aload_n dX6_isWoman_8 rfl ?_
    refine w_getI dX6_isWoman_9 f_X6_22 (by first | assumption | rfl) rfl ?_
    refine w_iload_n dX6_isWoman_12 rfl ?_
    refine w_ishr dX6_isWoman_13 ?_
    refine w_iconst (v := 1) dX6_isWoman_14 (by decide) ?_
    refine w_iand dX6_isWoman_15 ?_
    refine w_iconst (v := 1) dX6_isWoman_16 (by decide) ?_
    refine w_icmp_ne (tgt := 24) dX6_isWoman_17 (by decide) (fun c_17 => ?_) (fun c_17 => ?_)
    · refine w_iconst (v := 0) dX6_isWoman_24 (by decide) ?_
      refine w_ret dX6_isWoman_25 ⟨?_, rfl, rfl⟩
      first | (simp [zB_eq0, zB_t, zB_f, zwom, zbit, *]; done) | (simp_all [zB_eq0, zB_t, zB_f, zwom, zbit]; done)
    · refine w_iconst (v := 1) dX6_isWoman_20 (by decide) ?_
      refine w_goto (tgt := 25) dX6_isWoman_21 (by decide) ?_
      refine w_ret dX6_isWoman_25 ⟨?_, rfl, rfl⟩
      first | (simp [zB_eq0, zB_t, zB_f, zwom, zbit, *]; done) | (simp_all [zB_eq0, zB_t, zB_f, zwom, zbit]; done)
set_option maxHeartbeats 4000000 in
set_option maxRecDepth 100000 in
theorem c_X6_parentOf {t : Nat} (ht : t ∈ q_lands) {I : Mem} {J : Lng} {p : Int32} : q_E yX6_parentOf cX6_parentOf 2 (some .int) 1 [.ref t, .int p] I J (some (.int (zpar I t p))) (I) (J) := by
  obtain ⟨ht0, ht1, ht2⟩ := SH_land ht
  refine q_Ei me_X6_parentOf rfl (Nat.le_of_ble_eq_true rfl) ?_
  show q_w _ _ _ _ _ _ _ 0 [some (.ref t), some (.int p)] [] I J
  refine w_aload_n dX6_parentOf_0 rfl ?_
  refine w_iload_n dX6_parentOf_1 rfl ?_
  refine w_callVi dX6_parentOf_2 k_X6_49 (by first | assumption | rfl) rfl (c_X6_has ht) rfl rfl rfl (Nat.le_of_ble_eq_true rfl) (by first | decide | omega) ?_
  refine w_if_eq (tgt := 17) dX6_parentOf_5 (by decide) (fun c_5 => ?_) (fun c_5 => ?_)
  · refine w_bipush (v := (-9)) dX6_parentOf_17 (by decide) ?_
    refine w_ret dX6_parentOf_19 ⟨?_, rfl, rfl⟩
    first | (simp [zpar, c_5, nI_clamp (show j < 2 ^ 31 by omega)]; done) | (rw [zB_eq0] at c_5; simp [zpar, c_5])
  · rw [zB_eq0, Bool.not_eq_false] at c_5
    obtain ⟨j, hj, rfl⟩ := zhas_in c_5
    refine w_aload_n dX6_parentOf_8 rfl ?_
    refine w_getR dX6_parentOf_9 f_X6_9 (by first | assumption | rfl) rfl rfl ?_
    refine w_iload_n dX6_parentOf_12 rfl ?_
    refine w_iald (j := j) dX6_parentOf_13 (by first | assumption | rfl) rfl rfl hj (by decide) ?_
    refine w_goto (tgt := 19) dX6_parentOf_14 (by decide) ?_
    refine w_ret dX6_parentOf_19 ⟨?_, rfl, rfl⟩
    first | (simp [zpar, c_5, nI_clamp (show j < 2 ^ 31 by omega)]; done) | (rw [zB_eq0] at c_5; simp [zpar, c_5])
set_option maxHeartbeats 4000000 in
set_option maxRecDepth 100000 in
theorem c_X6_ageOf {t : Nat} (ht : t ∈ q_lands) {I : Mem} {J : Lng} {p : Int32} : q_E yX6_ageOf cX6_ageOf 2 (some .int) 1 [.ref t, .int p] I J (some (.int (zage I t p))) (I) (J) := by
  obtain ⟨ht0, ht1, ht2⟩ := SH_land ht
  refine q_Ei me_X6_ageOf rfl (Nat.le_of_ble_eq_true rfl) ?_
  show q_w _ _ _ _ _ _ _ 0 [some (.ref t), some (.int p)] [] I J
  refine w_aload_n dX6_ageOf_0 rfl ?_
  refine w_iload_n dX6_ageOf_1 rfl ?_
  refine w_callVi dX6_ageOf_2 k_X6_49 (by first | assumption | rfl) rfl (c_X6_has ht) rfl rfl rfl (Nat.le_of_ble_eq_true rfl) (by first | decide | omega) ?_
  refine w_if_eq (tgt := 17) dX6_ageOf_5 (by decide) (fun c_5 => ?_) (fun c_5 => ?_)
  · refine w_iconst (v := 0) dX6_ageOf_17 (by decide) ?_
    refine w_ret dX6_ageOf_18 ⟨?_, rfl, rfl⟩
    first | (simp [zage, c_5, nI_clamp (show j < 2 ^ 31 by omega)]; done) | (rw [zB_eq0] at c_5; simp [zage, c_5])
  · rw [zB_eq0, Bool.not_eq_false] at c_5
    obtain ⟨j, hj, rfl⟩ := zhas_in c_5
    refine w_aload_n dX6_ageOf_8 rfl ?_
    refine w_getR dX6_ageOf_9 f_X6_15 (by first | assumption | rfl) rfl rfl ?_
    refine w_iload_n dX6_ageOf_12 rfl ?_
    refine w_iald (j := j) dX6_ageOf_13 (by first | assumption | rfl) rfl rfl hj (by decide) ?_
    refine w_goto (tgt := 18) dX6_ageOf_14 (by decide) ?_
    refine w_ret dX6_ageOf_18 ⟨?_, rfl, rfl⟩
    first | (simp [zage, c_5, nI_clamp (show j < 2 ^ 31 by omega)]; done) | (rw [zB_eq0] at c_5; simp [zage, c_5])
set_option maxHeartbeats 4000000 in
set_option maxRecDepth 100000 in
theorem l_X6_childrenOf {t : Nat} (ht : t ∈ q_lands) {I : Mem} {J : Lng} {p : Int32} : ∀ (r k : Nat) (b : Int32), zppl I t - k = r → k ≤ zppl I t → b = zkids I t p k → q_w yX6_childrenOf.cls yX6_childrenOf.name cX6_childrenOf 4 .ireturn 0 (fun st I1 J1 => st = [.int (zkids I t p (zppl I t))] ∧ I1 = I ∧ J1 = J) 4 [some (.ref t), some (.int p), some (.int b), some (.int (nI k))] [] (I) (J) := by
  obtain ⟨ht0, ht1, ht2⟩ := SH_land ht
  intro r
  induction r with
  | zero =>
    intro k b hr hk hb
    have h7 := zppl_7 I t
    subst hb
    refine w_iload_n dX6_childrenOf_4 rfl ?_
    refine w_aload_n dX6_childrenOf_5 rfl ?_
    refine w_getI dX6_childrenOf_6 f_X6_25 (by first | assumption | rfl) rfl ?_
    refine w_icmp_ge (tgt := 40) dX6_childrenOf_9 (by decide) (fun c_9 => ?_) (fun c_9 => ?_)
    · refine w_iload_n dX6_childrenOf_40 rfl ?_
      refine w_ret dX6_childrenOf_41 ⟨?_, rfl, rfl⟩
      rw [show k = zppl I t by omega]
    · refine w_iload_n dX6_childrenOf_12 rfl ?_
      refine w_bipush (v := 7) dX6_childrenOf_13 (by decide) ?_
      refine w_icmp_ge (tgt := 40) dX6_childrenOf_15 (by decide) (fun c_15 => ?_) (fun c_15 => ?_)
      · refine w_iload_n dX6_childrenOf_40 rfl ?_
        refine w_ret dX6_childrenOf_41 ⟨?_, rfl, rfl⟩
        rw [show k = zppl I t by omega]
      · exact absurd (zppl_lt c_9 c_15 (by omega)) (by omega)
  | succ r ih =>
    intro k b hr hk hb
    have h7 := zppl_7 I t
    subst hb
    refine w_iload_n dX6_childrenOf_4 rfl ?_
    refine w_aload_n dX6_childrenOf_5 rfl ?_
    refine w_getI dX6_childrenOf_6 f_X6_25 (by first | assumption | rfl) rfl ?_
    refine w_icmp_ge (tgt := 40) dX6_childrenOf_9 (by decide) (fun c_9 => ?_) (fun c_9 => ?_)
    · refine w_iload_n dX6_childrenOf_40 rfl ?_
      refine w_ret dX6_childrenOf_41 ⟨?_, rfl, rfl⟩
      rw [show k = zppl I t from zppl_end hk (by first | exact Or.inl c_9 | exact Or.inr c_15)]
    · refine w_iload_n dX6_childrenOf_12 rfl ?_
      refine w_bipush (v := 7) dX6_childrenOf_13 (by decide) ?_
      refine w_icmp_ge (tgt := 40) dX6_childrenOf_15 (by decide) (fun c_15 => ?_) (fun c_15 => ?_)
      · refine w_iload_n dX6_childrenOf_40 rfl ?_
        refine w_ret dX6_childrenOf_41 ⟨?_, rfl, rfl⟩
        rw [show k = zppl I t from zppl_end hk (by first | exact Or.inl c_9 | exact Or.inr c_15)]
      · refine w_aload_n dX6_childrenOf_18 rfl ?_
        refine w_getR dX6_childrenOf_19 f_X6_9 (by first | assumption | rfl) rfl rfl ?_
        refine w_iload_n dX6_childrenOf_22 rfl ?_
        refine w_iald (j := k) dX6_childrenOf_23 (by first | assumption | rfl) rfl rfl (by have := zppl_lt c_9 c_15 (by omega); dsimp only; omega) (by decide) ?_
        refine w_iload_n dX6_childrenOf_24 rfl ?_
        refine w_icmp_ne (tgt := 34) dX6_childrenOf_25 (by decide) (fun c_25 => ?_) (fun c_25 => ?_)
        · refine w_iincv (c := 1) dX6_childrenOf_34 (by decide) rfl (by decide) rfl ?_
          refine w_goto (tgt := 4) dX6_childrenOf_37 (by decide) ?_
          rw [nI_1]
          exact ih (k + 1) _ (by omega) (by have := zppl_lt c_9 c_15 (by omega); omega) (by simp [zkids, c_25])
        · refine w_iload_n dX6_childrenOf_28 rfl ?_
          refine w_iconst (v := 1) dX6_childrenOf_29 (by decide) ?_
          refine w_iload_n dX6_childrenOf_30 rfl ?_
          refine w_ishl dX6_childrenOf_31 ?_
          refine w_ior dX6_childrenOf_32 ?_
          refine w_istore_n dX6_childrenOf_33 (by decide) rfl ?_
          refine w_iincv (c := 1) dX6_childrenOf_34 (by decide) rfl (by decide) rfl ?_
          refine w_goto (tgt := 4) dX6_childrenOf_37 (by decide) ?_
          rw [nI_1]
          exact ih (k + 1) _ (by omega) (by have := zppl_lt c_9 c_15 (by omega); omega) (by simp [zkids, c_25])
set_option maxHeartbeats 4000000 in
set_option maxRecDepth 100000 in
theorem c_X6_childrenOf {t : Nat} (ht : t ∈ q_lands) {I : Mem} {J : Lng} {p : Int32} : q_E yX6_childrenOf cX6_childrenOf 4 (some .int) 0 [.ref t, .int p] I J (some (.int (zkids I t p (zppl I t)))) (I) (J) := by
  obtain ⟨ht0, ht1, ht2⟩ := SH_land ht
  refine q_Ei me_X6_childrenOf rfl (Nat.le_of_ble_eq_true rfl) ?_
  show q_w _ _ _ _ _ _ _ 0 [some (.ref t), some (.int p), none, none] [] I J
  refine w_iconst (v := 0) dX6_childrenOf_0 (by decide) ?_
  refine w_istore_n dX6_childrenOf_1 (by decide) rfl ?_
  refine w_iconst (v := 0) dX6_childrenOf_2 (by decide) ?_
  refine w_istore_n dX6_childrenOf_3 (by decide) rfl ?_
  exact l_X6_childrenOf ht _ 0 0 rfl (Nat.zero_le _) rfl
