/-- a land as the reference's page has it -/
def lnd (I : Mem) (t : Nat) : Nat → Int32 := fun k => if k = 6 then I t 3 else if k < 6 then I t (k + 4) else if k < 14 then I (t + 1) (k - 7) else if k = 14 then I t 2 else if k < 22 then I (t + 2) (k - 15) else 0
theorem lnd_par (I : Mem) (t : Nat) {p : Nat} (hp : p < 7) : lnd I t (7 + p) = I (t + 1) p := by
  unfold lnd
  rw [if_neg (by omega), if_neg (by omega), if_pos (by omega), show 7 + p - 7 = p by omega]
theorem lnd_age (I : Mem) (t : Nat) {p : Nat} (hp : p < 7) : lnd I t (15 + p) = I (t + 2) p := by
  unfold lnd
  rw [if_neg (by omega), if_neg (by omega), if_neg (by omega), if_neg (by omega), if_pos (by omega), show 15 + p - 15 = p by omega]
theorem lnd_f {I : Mem} {t : Nat} {f k : Nat} {v : Int32} (h : (f = 3 ∧ k = 6) ∨ (f = 2 ∧ k = 14) ∨ (k < 6 ∧ f = k + 4)) : lnd (upI I t f v) t = upd (lnd I t) k v := by
  funext j
  unfold lnd upd upI
  by_cases hj : j = k
  · subst hj
    rcases h with ⟨rfl, rfl⟩ | ⟨rfl, rfl⟩ | ⟨h, rfl⟩
    · simp
    · simp
    · simp [show ¬ j = 6 by omega, h]
  · rw [if_neg hj]
    by_cases h6 : j = 6
    · subst h6
      have : ¬ 3 = f := by omega
      simp [this]
    · by_cases hl : j < 6
      · have : ¬ j + 4 = f := by omega
        simp [h6, hl, this]
      · by_cases h14 : j = 14
        · subst h14
          have : ¬ 2 = f := by omega
          simp [this]
        · simp [h6, hl, h14]
theorem lnd_p {I : Mem} {t p : Nat} {v : Int32} (hp : p < 7) : lnd (upI I (t + 1) p v) t = upd (lnd I t) (7 + p) v := by
  funext j
  unfold lnd upd upI
  by_cases hj : j = 7 + p
  · subst hj
    rw [if_pos rfl, if_neg (by omega), if_neg (by omega), if_pos (by omega), if_pos rfl, if_pos (by omega)]
  · rw [if_neg hj]
    by_cases h14 : j < 14
    · by_cases h7 : 7 ≤ j
      · have : ¬ j - 7 = p := by omega
        simp [this]
      · simp [show ¬ t = t + 1 by omega, h14]
        by_cases h6 : j = 6
        · simp [h6]
        · simp [h6, show j < 6 by omega]
    · simp [h14, show ¬ j = 6 by omega, show ¬ j < 6 by omega]
theorem lnd_a {I : Mem} {t p : Nat} {v : Int32} (hp : p < 7) : lnd (upI I (t + 2) p v) t = upd (lnd I t) (15 + p) v := by
  funext j
  unfold lnd upd upI
  by_cases hj : j = 15 + p
  · subst hj
    rw [if_pos rfl, if_neg (by omega), if_neg (by omega), if_neg (by omega), if_neg (by omega), if_pos (by omega), if_pos rfl, if_pos (by omega)]
  · rw [if_neg hj]
    by_cases h22 : j < 22
    · by_cases h15 : 15 ≤ j
      · have : ¬ j - 15 = p := by omega
        simp [this]
      · simp [show ¬ t = t + 2 by omega]
        by_cases h14 : j = 14
        · simp [h14]
        · simp [show j < 14 by omega]
    · simp [h22, show ¬ j = 6 by omega, show ¬ j < 6 by omega, show ¬ j < 14 by omega, show ¬ j = 14 by omega]
theorem lnd_ne {I I' : Mem} {t : Nat} (h0 : I' t = I t) (h1 : I' (t + 1) = I (t + 1)) (h2 : I' (t + 2) = I (t + 2)) : lnd I' t = lnd I t := by
  unfold lnd; rw [h0, h1, h2]
theorem q_lapart {t o : Nat} (ht : t ∈ q_lands) (ho : o ∈ q_lands) (h : t ≠ o) : o ≠ t ∧ o ≠ t + 1 ∧ o ≠ t + 2 ∧ o + 1 ≠ t ∧ o + 1 ≠ t + 1 ∧ o + 1 ≠ t + 2 ∧ o + 2 ≠ t ∧ o + 2 ≠ t + 1 ∧ o + 2 ≠ t + 2 := by
  have : ∀ t ∈ q_lands, ∀ o ∈ q_lands, t ≠ o → o ≠ t ∧ o ≠ t + 1 ∧ o ≠ t + 2 ∧ o + 1 ≠ t ∧ o + 1 ≠ t + 1 ∧ o + 1 ≠ t + 2 ∧ o + 2 ≠ t ∧ o + 2 ≠ t + 1 ∧ o + 2 ≠ t + 2 := by decide
  exact this t ht o ho h
/-- memory outside a land is the same -/
def LO (t : Nat) (I I' : Mem) : Prop := ∀ p, p ≠ t → p ≠ t + 1 → p ≠ t + 2 → I' p = I p
theorem LO.land {t o : Nat} {I I' : Mem} (h : LO t I I') (ht : t ∈ q_lands) (ho : o ∈ q_lands) (hto : t ≠ o) : lnd I' o = lnd I o := by
  obtain ⟨a1, a2, a3, a4, a5, a6, a7, a8, a9⟩ := q_lapart ht ho hto
  exact lnd_ne (h _ a1 a2 a3) (h _ a4 a5 a6) (h _ a7 a8 a9)
/-- an empty land -/
def pclr (a : Nat → Int32) : Nat → Int32 := upd (upd (upd (upd (upd (upd (upd (upd a 14 0) 6 0) 0 0) 1 (-9)) 2 0) 3 0) 4 0) 5 0
def zclr (I : Mem) (t : Nat) : Mem := upI (upI (upI (upI (upI (upI (upI (upI I t 2 0) t 3 0) t 4 0) t 5 (-9)) t 6 0) t 7 0) t 8 0) t 9 0
theorem zclr_l (I : Mem) (t : Nat) : lnd (zclr I t) t = pclr (lnd I t) := by
  unfold zclr pclr
  rw [lnd_f (f := 9) (k := 5) (by omega), lnd_f (f := 8) (k := 4) (by omega), lnd_f (f := 7) (k := 3) (by omega), lnd_f (f := 6) (k := 2) (by omega), lnd_f (f := 5) (k := 1) (by omega), lnd_f (f := 4) (k := 0) (by omega), lnd_f (f := 3) (k := 6) (by omega), lnd_f (f := 2) (k := 14) (by omega)]
theorem zclr_o (I : Mem) (t : Nat) : LO t I (zclr I t) := fun p h _ _ => by
  unfold zclr
  simp only [upI_ne h]
set_option maxHeartbeats 4000000 in
set_option maxRecDepth 100000 in
theorem c_X6_clear {t : Nat} (ht : t ∈ q_lands) {I : Mem} {J : Lng} : q_E yX6_clear cX6_clear 1 none 0 [.ref t] I J none (zclr I t) (J) := by
  obtain ⟨ht0, ht1, ht2⟩ := SH_land ht
  refine q_Ev me_X6_clear rfl (Nat.le_of_ble_eq_true rfl) ?_
  show q_w _ _ _ _ _ _ _ 0 [some (.ref t)] [] I J
  refine w_aload_n dX6_clear_0 rfl ?_
  refine w_iconst (v := 0) dX6_clear_1 (by decide) ?_
  refine w_putI dX6_clear_2 f_X6_22 (by first | assumption | rfl) rfl ?_
  refine w_aload_n dX6_clear_5 rfl ?_
  refine w_iconst (v := 0) dX6_clear_6 (by decide) ?_
  refine w_putI dX6_clear_7 f_X6_25 (by first | assumption | rfl) rfl ?_
  refine w_aload_n dX6_clear_10 rfl ?_
  refine w_iconst (v := 0) dX6_clear_11 (by decide) ?_
  refine w_putI dX6_clear_12 f_X6_28 (by first | assumption | rfl) rfl ?_
  refine w_aload_n dX6_clear_15 rfl ?_
  refine w_bipush (v := (-9)) dX6_clear_16 (by decide) ?_
  refine w_putI dX6_clear_18 f_X6_18 (by first | assumption | rfl) rfl ?_
  refine w_aload_n dX6_clear_21 rfl ?_
  refine w_iconst (v := 0) dX6_clear_22 (by decide) ?_
  refine w_putI dX6_clear_23 f_X6_31 (by first | assumption | rfl) rfl ?_
  refine w_aload_n dX6_clear_26 rfl ?_
  refine w_iconst (v := 0) dX6_clear_27 (by decide) ?_
  refine w_putI dX6_clear_28 f_X6_34 (by first | assumption | rfl) rfl ?_
  refine w_aload_n dX6_clear_31 rfl ?_
  refine w_iconst (v := 0) dX6_clear_32 (by decide) ?_
  refine w_putI dX6_clear_33 f_X6_37 (by first | assumption | rfl) rfl ?_
  refine w_aload_n dX6_clear_36 rfl ?_
  refine w_iconst (v := 0) dX6_clear_37 (by decide) ?_
  refine w_putI dX6_clear_38 f_X6_40 (by first | assumption | rfl) rfl ?_
  exact w_ret dX6_clear_41 ⟨rfl, rfl, rfl⟩
/-- the land o copied into t -/
def zcopy (I : Mem) (t o : Nat) : Mem := fun p k => if p = t then (if 2 ≤ k ∧ k < 10 then I o k else I p k) else if p = t + 1 then (if k < 7 then I (o + 1) k else I p k) else if p = t + 2 then (if k < 7 then I (o + 2) k else I p k) else I p k
theorem zcopy_o (I : Mem) (t o : Nat) : LO t I (zcopy I t o) := fun p h1 h2 h3 => by
  funext k; simp [zcopy, h1, h2, h3]
theorem zcopy_l (I : Mem) (t o : Nat) : lnd (zcopy I t o) t = lnd I o := by
  funext k
  unfold lnd
  by_cases h6 : k = 6
  · simp [h6, zcopy]
  · by_cases hl : k < 6
    · simp only [h6, hl, if_true, if_false, zcopy]
      rw [if_pos (by omega)]
    · by_cases h14 : k < 14
      · simp only [h6, hl, h14, if_true, if_false, zcopy]
        rw [if_neg (by omega), if_pos (by omega)]
      · by_cases he : k = 14
        · simp [he, zcopy]
        · by_cases h22 : k < 22
          · simp only [h6, hl, h14, he, h22, if_true, if_false, zcopy]
            rw [if_neg (by omega), if_neg (by omega), if_pos (by omega)]
          · simp [h6, hl, h14, he, h22]
set_option maxHeartbeats 4000000 in
set_option maxRecDepth 100000 in
theorem c_X6_copy {t o : Nat} (ht : t ∈ q_lands) (ho : o ∈ q_lands) (hto : t ≠ o) {I : Mem} {J : Lng} : q_E yX6_copy cX6_copy 2 none 1 [.ref t, .ref o] I J none (zcopy I t o) (J) := by
  obtain ⟨ht0, ht1, ht2⟩ := SH_land ht
  obtain ⟨ho0, ho1, ho2⟩ := SH_land ho
  obtain ⟨a1, a2, a3, a4, a5, a6, a7, a8, a9⟩ := q_lapart ht ho hto
  refine q_Ev me_X6_copy rfl (Nat.le_of_ble_eq_true rfl) ?_
  show q_w _ _ _ _ _ _ _ 0 [some (.ref t), some (.ref o)] [] I J
  refine w_aload_n dX6_copy_0 rfl ?_
  refine w_getR dX6_copy_1 f_X6_9 (by first | assumption | rfl) rfl rfl ?_
  refine w_iconst (v := 0) dX6_copy_4 (by decide) ?_
  refine w_aload_n dX6_copy_5 rfl ?_
  refine w_getR dX6_copy_6 f_X6_9 (by first | assumption | rfl) rfl rfl ?_
  refine w_iconst (v := 0) dX6_copy_9 (by decide) ?_
  refine w_bipush (v := 7) dX6_copy_10 (by decide) ?_
  refine w_copy dX6_copy_12 k_X6_43 kA_native kA_static kA_i (by first | assumption | rfl) (by first | assumption | rfl) rfl rfl (by decide) (by decide) (by decide) (by decide) (by decide) (Nat.le_of_ble_eq_true rfl) (by decide) ?_
  refine w_aload_n dX6_copy_15 rfl ?_
  refine w_getR dX6_copy_16 f_X6_15 (by first | assumption | rfl) rfl rfl ?_
  refine w_iconst (v := 0) dX6_copy_19 (by decide) ?_
  refine w_aload_n dX6_copy_20 rfl ?_
  refine w_getR dX6_copy_21 f_X6_15 (by first | assumption | rfl) rfl rfl ?_
  refine w_iconst (v := 0) dX6_copy_24 (by decide) ?_
  refine w_bipush (v := 7) dX6_copy_25 (by decide) ?_
  refine w_copy dX6_copy_27 k_X6_43 kA_native kA_static kA_i (by first | assumption | rfl) (by first | assumption | rfl) rfl rfl (by decide) (by decide) (by decide) (by decide) (by decide) (Nat.le_of_ble_eq_true rfl) (by decide) ?_
  refine w_aload_n dX6_copy_30 rfl ?_
  refine w_aload_n dX6_copy_31 rfl ?_
  refine w_getI dX6_copy_32 f_X6_22 (by first | assumption | rfl) rfl ?_
  refine w_putI dX6_copy_35 f_X6_22 (by first | assumption | rfl) rfl ?_
  refine w_aload_n dX6_copy_38 rfl ?_
  refine w_aload_n dX6_copy_39 rfl ?_
  refine w_getI dX6_copy_40 f_X6_25 (by first | assumption | rfl) rfl ?_
  refine w_putI dX6_copy_43 f_X6_25 (by first | assumption | rfl) rfl ?_
  refine w_aload_n dX6_copy_46 rfl ?_
  refine w_aload_n dX6_copy_47 rfl ?_
  refine w_getI dX6_copy_48 f_X6_28 (by first | assumption | rfl) rfl ?_
  refine w_putI dX6_copy_51 f_X6_28 (by first | assumption | rfl) rfl ?_
  refine w_aload_n dX6_copy_54 rfl ?_
  refine w_aload_n dX6_copy_55 rfl ?_
  refine w_getI dX6_copy_56 f_X6_18 (by first | assumption | rfl) rfl ?_
  refine w_putI dX6_copy_59 f_X6_18 (by first | assumption | rfl) rfl ?_
  refine w_aload_n dX6_copy_62 rfl ?_
  refine w_aload_n dX6_copy_63 rfl ?_
  refine w_getI dX6_copy_64 f_X6_31 (by first | assumption | rfl) rfl ?_
  refine w_putI dX6_copy_67 f_X6_31 (by first | assumption | rfl) rfl ?_
  refine w_aload_n dX6_copy_70 rfl ?_
  refine w_aload_n dX6_copy_71 rfl ?_
  refine w_getI dX6_copy_72 f_X6_34 (by first | assumption | rfl) rfl ?_
  refine w_putI dX6_copy_75 f_X6_34 (by first | assumption | rfl) rfl ?_
  refine w_aload_n dX6_copy_78 rfl ?_
  refine w_aload_n dX6_copy_79 rfl ?_
  refine w_getI dX6_copy_80 f_X6_37 (by first | assumption | rfl) rfl ?_
  refine w_putI dX6_copy_83 f_X6_37 (by first | assumption | rfl) rfl ?_
  refine w_aload_n dX6_copy_86 rfl ?_
  refine w_aload_n dX6_copy_87 rfl ?_
  refine w_getI dX6_copy_88 f_X6_40 (by first | assumption | rfl) rfl ?_
  refine w_putI dX6_copy_91 f_X6_40 (by first | assumption | rfl) rfl ?_
  refine w_ret dX6_copy_94 ⟨rfl, ?_, rfl⟩
  have z0 : (0 : Int32).toNatClampNeg = 0 := by decide
  have z7 : (7 : Int32).toNatClampNeg = 7 := by decide
  have b1 : t + 1 ≠ t := by omega
  have b2 : t + 2 ≠ t := by omega
  have b3 : t + 2 ≠ t + 1 := by omega
  have b4 : t ≠ t + 1 := by omega
  have b5 : t ≠ t + 2 := by omega
  funext p k
  by_cases h1 : p = t
  · subst h1
    by_cases hk : 2 ≤ k ∧ k < 10
    · have : k = 2 ∨ k = 3 ∨ k = 4 ∨ k = 5 ∨ k = 6 ∨ k = 7 ∨ k = 8 ∨ k = 9 := by omega
      rcases this with rfl | rfl | rfl | rfl | rfl | rfl | rfl | rfl <;> simp [zcopy, upI, upR, *]
    · have : k ≠ 2 ∧ k ≠ 3 ∧ k ≠ 4 ∧ k ≠ 5 ∧ k ≠ 6 ∧ k ≠ 7 ∧ k ≠ 8 ∧ k ≠ 9 := by omega
      obtain ⟨k1, k2, k3, k4, k5, k6, k7, k8⟩ := this
      simp only [zcopy, upI, upR, if_pos, if_neg hk, if_neg k1, if_neg k2, if_neg k3, if_neg k4, if_neg k5, if_neg k6, if_neg k7, if_neg k8, if_neg b4, if_neg b5]
  · by_cases h2 : p = t + 1
    · subst h2
      simp only [zcopy, upI, upR, if_neg b1, if_neg b3.symm, if_pos, va_cpy, z0, z7]
      simp
    · by_cases h3 : p = t + 2
      · subst h3
        simp only [zcopy, upI, upR, if_neg b2, if_neg b3, if_pos, va_cpy, z0, z7, if_neg a8]
        simp
      · simp [zcopy, upI, upR, h1, h2, h3]
