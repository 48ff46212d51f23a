theorem rem14 {a : Nat} (h : a < 2 ^ 31) : nI a - nI a / 14 * 14 = nI (a % 14) := pk_rem (d := 14) h (by decide) (by decide)
theorem bef_r : ∀ j, j < 14 → ([some 11, some 14, some 17, some 20, some 23, some 26, some 29, some 32, some 35, some 38, some 41, some 44, some 47, some 50] : List (Option Nat)).getD j none = some (11 + 3 * j) := by decide
theorem bef_l : ∀ j, j < 14 → 11 + 3 * j ∈ q_lands := by decide
theorem l3 : 3 ∈ q_lands := by decide
theorem l6 : 6 ∈ q_lands := by decide
/-- what stands in the row of acts: the first place, how many -/
def AR (I : Mem) (f z : Nat) : Prop := I 9 1 = nI f ∧ I 9 2 = nI z ∧ f < 14 ∧ z ≤ 14
def rf (f z : Nat) : Nat := if z = 14 then (f + 1) % 14 else f
def rz (z : Nat) : Nat := if z = 14 then 13 else z
def zrem (I : Mem) (f z : Nat) : Mem := upI (zcopy (if z = 14 then upI (upI I 9 1 (nI ((f + 1) % 14))) 9 2 (nI 13) else I) (11 + 3 * ((rf f z + rz z) % 14)) 3) 9 2 (nI (rz z + 1))
def ztak (I : Mem) (f z : Nat) : Mem := zcopy (upI I 9 2 (nI (z - 1))) 3 (11 + 3 * ((f + (z - 1)) % 14))
set_option maxHeartbeats 4000000 in
set_option maxRecDepth 100000 in
theorem c_X0_remember {I : Mem} {J : Lng} {f z : Nat} (hA : AR I f z) : q_E yX0_remember cX0_remember 2 none 2 [.ref 9, .ref 3] I J none (zrem I f z) (J) := by
  obtain ⟨h1, h2, h3, h4⟩ := hA
  refine q_Ev me_X0_remember rfl (Nat.le_of_ble_eq_true rfl) ?_
  show q_w _ _ _ _ _ _ _ 0 [some (.ref 9), some (.ref 3)] [] I J
  refine w_aload_n dX0_remember_0 rfl ?_
  refine w_getI dX0_remember_1 f_X0_18 (by first | assumption | rfl) rfl ?_
  refine w_bipush (v := 14) dX0_remember_4 (by decide) ?_
  refine w_icmp_ne (tgt := 32) dX0_remember_6 (by decide) (fun c_6 => ?_) (fun c_6 => ?_)
  · have hz : z ≠ 14 := fun e => c_6 (by rw [h2, e]; rfl)
    have e1 := h1
    have e2 := h2
    refine w_aload_n dX0_remember_32 rfl ?_
    refine w_getR dX0_remember_33 f_X0_11 (by first | assumption | rfl) rfl rfl ?_
    refine w_aload_n dX0_remember_36 rfl ?_
    refine w_getI dX0_remember_37 f_X0_22 (by first | assumption | rfl) rfl ?_
    refine w_aload_n dX0_remember_40 rfl ?_
    refine w_getI dX0_remember_41 f_X0_18 (by first | assumption | rfl) rfl ?_
    refine w_iadd dX0_remember_44 ?_
    refine w_bipush (v := 14) dX0_remember_45 (by decide) ?_
    refine w_irem dX0_remember_47 (by decide) ?_
    rw [e1, e2, nI_add, rem14 (by omega)]
    refine w_aald (j := _) dX0_remember_48 (by first | assumption | rfl) rfl (by decide) rfl (Nat.mod_lt _ (show 14 > 0 by decide)) (by decide) (bef_r _ (Nat.mod_lt _ (show 14 > 0 by decide))) ?_
    refine w_aload_n dX0_remember_49 rfl ?_
    refine w_callVv dX0_remember_50 k_X0_25 (SH_land (bef_l _ (Nat.mod_lt _ (show 14 > 0 by decide)))).1 rfl (c_X6_copy (bef_l _ (Nat.mod_lt _ (show 14 > 0 by decide))) l3 (by omega)) rfl rfl rfl (Nat.le_of_ble_eq_true rfl) (by first | decide | omega) ?_
    refine w_aload_n dX0_remember_53 rfl ?_
    refine w_dup dX0_remember_54 rfl ?_
    refine w_getI dX0_remember_55 f_X0_18 (by first | assumption | rfl) rfl ?_
    refine w_iconst (v := 1) dX0_remember_58 (by decide) ?_
    refine w_iadd dX0_remember_59 ?_
    refine w_putI dX0_remember_60 f_X0_18 (by first | assumption | rfl) rfl ?_
    refine w_ret dX0_remember_63 ⟨rfl, ?_, rfl⟩
    have e3 : (zcopy I (11 + 3 * ((f + z) % 14)) 3) 9 2 = nI z := by rw [zcopy_o _ _ _ 9 (by omega) (by omega) (by omega)]; exact h2
    unfold zrem rf rz
    rw [if_neg hz, if_neg hz, if_neg hz, e3, nI_1]
  · have hz : z = 14 := nI_inj (by omega) (by decide) (h2.symm.trans c_6)
    subst hz
    refine w_aload_n dX0_remember_9 rfl ?_
    refine w_aload_n dX0_remember_10 rfl ?_
    refine w_getI dX0_remember_11 f_X0_22 (by first | assumption | rfl) rfl ?_
    refine w_iconst (v := 1) dX0_remember_14 (by decide) ?_
    refine w_iadd dX0_remember_15 ?_
    refine w_bipush (v := 14) dX0_remember_16 (by decide) ?_
    refine w_irem dX0_remember_18 (by decide) ?_
    refine w_putI dX0_remember_19 f_X0_22 (by first | assumption | rfl) rfl ?_
    rw [h1, nI_1, rem14 (by omega)]
    refine w_aload_n dX0_remember_22 rfl ?_
    refine w_dup dX0_remember_23 rfl ?_
    refine w_getI dX0_remember_24 f_X0_18 (by first | assumption | rfl) rfl ?_
    refine w_iconst (v := 1) dX0_remember_27 (by decide) ?_
    refine w_isub dX0_remember_28 ?_
    refine w_putI dX0_remember_29 f_X0_18 (by first | assumption | rfl) rfl ?_
    refine w_mem (I2 := upI (upI I 9 1 (nI ((f + 1) % 14))) 9 2 (nI 13)) (by rw [upI_tf (show (2 : Nat) ≠ 1 by decide), h2]; rfl) ?_
    have e1 : (upI (upI I 9 1 (nI ((f + 1) % 14))) 9 2 (nI 13)) 9 1 = nI ((f + 1) % 14) := by rw [upI_tf (by decide), upI_tt]
    have e2 : (upI (upI I 9 1 (nI ((f + 1) % 14))) 9 2 (nI 13)) 9 2 = nI 13 := upI_tt
    refine w_aload_n dX0_remember_32 rfl ?_
    refine w_getR dX0_remember_33 f_X0_11 (by first | assumption | rfl) rfl rfl ?_
    refine w_aload_n dX0_remember_36 rfl ?_
    refine w_getI dX0_remember_37 f_X0_22 (by first | assumption | rfl) rfl ?_
    refine w_aload_n dX0_remember_40 rfl ?_
    refine w_getI dX0_remember_41 f_X0_18 (by first | assumption | rfl) rfl ?_
    refine w_iadd dX0_remember_44 ?_
    refine w_bipush (v := 14) dX0_remember_45 (by decide) ?_
    refine w_irem dX0_remember_47 (by decide) ?_
    rw [e1, e2, nI_add, rem14 (by omega)]
    refine w_aald (j := _) dX0_remember_48 (by first | assumption | rfl) rfl (by decide) rfl (Nat.mod_lt _ (show 14 > 0 by decide)) (by decide) (bef_r _ (Nat.mod_lt _ (show 14 > 0 by decide))) ?_
    refine w_aload_n dX0_remember_49 rfl ?_
    refine w_callVv dX0_remember_50 k_X0_25 (SH_land (bef_l _ (Nat.mod_lt _ (show 14 > 0 by decide)))).1 rfl (c_X6_copy (bef_l _ (Nat.mod_lt _ (show 14 > 0 by decide))) l3 (by omega)) rfl rfl rfl (Nat.le_of_ble_eq_true rfl) (by first | decide | omega) ?_
    refine w_aload_n dX0_remember_53 rfl ?_
    refine w_dup dX0_remember_54 rfl ?_
    refine w_getI dX0_remember_55 f_X0_18 (by first | assumption | rfl) rfl ?_
    refine w_iconst (v := 1) dX0_remember_58 (by decide) ?_
    refine w_iadd dX0_remember_59 ?_
    refine w_putI dX0_remember_60 f_X0_18 (by first | assumption | rfl) rfl ?_
    refine w_ret dX0_remember_63 ⟨rfl, ?_, rfl⟩
    have e3 : ∀ K : Mem, (zcopy K (11 + 3 * (((f + 1) % 14 + 13) % 14)) 3) 9 2 = K 9 2 := fun K => by rw [zcopy_o _ _ _ 9 (by omega) (by omega) (by omega)]
    rw [e3, e2]; rfl
set_option maxHeartbeats 4000000 in
set_option maxRecDepth 100000 in
theorem c_X0_takeBack_0 {I : Mem} {J : Lng} {f z : Nat} (hA : AR I f z) (hz : z = 0) : q_E yX0_takeBack cX0_takeBack 2 (some .boolean) 2 [.ref 9, .ref 3] I J (some (.int (0))) (I) (J) := by
  obtain ⟨h1, h2, h3, h4⟩ := hA
  subst hz
  refine q_Ez (Or.inl rfl) me_X0_takeBack rfl (Nat.le_of_ble_eq_true rfl) ?_
  show q_w _ _ _ _ _ _ _ 0 [some (.ref 9), some (.ref 3)] [] I J
  refine w_aload_n dX0_takeBack_0 rfl ?_
  refine w_getI dX0_takeBack_1 f_X0_18 (by first | assumption | rfl) rfl ?_
  refine w_if_gt (tgt := 9) dX0_takeBack_4 (by decide) (fun c_4 => absurd c_4 (by rw [h2]; decide)) (fun c_4 => ?_)
  refine w_iconst (v := 0) dX0_takeBack_7 (by decide) ?_
  exact w_ret dX0_takeBack_8 ⟨rfl, rfl, rfl⟩
set_option maxHeartbeats 4000000 in
set_option maxRecDepth 100000 in
theorem c_X0_takeBack {I : Mem} {J : Lng} {f z : Nat} (hA : AR I f z) (hz : 0 < z) : q_E yX0_takeBack cX0_takeBack 2 (some .boolean) 2 [.ref 9, .ref 3] I J (some (.int (1))) (ztak I f z) (J) := by
  obtain ⟨h1, h2, h3, h4⟩ := hA
  have e4 : nI z - 1 = nI (z - 1) := by rw [show z = (z - 1) + 1 by omega, nI_pred]; rfl
  refine q_Ez (Or.inr rfl) me_X0_takeBack rfl (Nat.le_of_ble_eq_true rfl) ?_
  show q_w _ _ _ _ _ _ _ 0 [some (.ref 9), some (.ref 3)] [] I J
  refine w_aload_n dX0_takeBack_0 rfl ?_
  refine w_getI dX0_takeBack_1 f_X0_18 (by first | assumption | rfl) rfl ?_
  refine w_if_gt (tgt := 9) dX0_takeBack_4 (by decide) (fun c_4 => ?_) (fun c_4 => absurd (by rw [h2, show (0 : Int32) = nI 0 from rfl]; exact nI_lt hz (by omega)) c_4)
  refine w_aload_n dX0_takeBack_9 rfl ?_
  refine w_dup dX0_takeBack_10 rfl ?_
  refine w_getI dX0_takeBack_11 f_X0_18 (by first | assumption | rfl) rfl ?_
  refine w_iconst (v := 1) dX0_takeBack_14 (by decide) ?_
  refine w_isub dX0_takeBack_15 ?_
  refine w_putI dX0_takeBack_16 f_X0_18 (by first | assumption | rfl) rfl ?_
  rw [h2, e4]
  have e1 : (upI I 9 2 (nI (z - 1))) 9 1 = nI f := by rw [upI_tf (by decide)]; exact h1
  have e2 : (upI I 9 2 (nI (z - 1))) 9 2 = nI (z - 1) := upI_tt
  refine w_aload_n dX0_takeBack_19 rfl ?_
  refine w_aload_n dX0_takeBack_20 rfl ?_
  refine w_getR dX0_takeBack_21 f_X0_11 (by first | assumption | rfl) rfl rfl ?_
  refine w_aload_n dX0_takeBack_24 rfl ?_
  refine w_getI dX0_takeBack_25 f_X0_22 (by first | assumption | rfl) rfl ?_
  refine w_aload_n dX0_takeBack_28 rfl ?_
  refine w_getI dX0_takeBack_29 f_X0_18 (by first | assumption | rfl) rfl ?_
  refine w_iadd dX0_takeBack_32 ?_
  refine w_bipush (v := 14) dX0_takeBack_33 (by decide) ?_
  refine w_irem dX0_takeBack_35 (by decide) ?_
  rw [e1, e2, nI_add, rem14 (by omega)]
  refine w_aald (j := _) dX0_takeBack_36 (by first | assumption | rfl) rfl (by decide) rfl (Nat.mod_lt _ (show 14 > 0 by decide)) (by decide) (bef_r _ (Nat.mod_lt _ (show 14 > 0 by decide))) ?_
  refine w_callVv dX0_takeBack_37 k_X0_25 (by first | assumption | rfl) rfl (c_X6_copy l3 (bef_l _ (Nat.mod_lt _ (show 14 > 0 by decide))) (by omega)) rfl rfl rfl (Nat.le_of_ble_eq_true rfl) (by first | decide | omega) ?_
  refine w_iconst (v := 1) dX0_takeBack_40 (by decide) ?_
  exact w_ret dX0_takeBack_41 ⟨rfl, rfl, rfl⟩
set_option maxHeartbeats 4000000 in
set_option maxRecDepth 100000 in
theorem c_X0_forgetAll {I : Mem} {J : Lng} : q_E yX0_forgetAll cX0_forgetAll 1 none 0 [.ref 9] I J none (upI (upI I 9 1 0) 9 2 0) (J) := by
  refine q_Ev me_X0_forgetAll rfl (Nat.le_of_ble_eq_true rfl) ?_
  show q_w _ _ _ _ _ _ _ 0 [some (.ref 9)] [] I J
  refine w_aload_n dX0_forgetAll_0 rfl ?_
  refine w_iconst (v := 0) dX0_forgetAll_1 (by decide) ?_
  refine w_putI dX0_forgetAll_2 f_X0_22 (by first | assumption | rfl) rfl ?_
  refine w_aload_n dX0_forgetAll_5 rfl ?_
  refine w_iconst (v := 0) dX0_forgetAll_6 (by decide) ?_
  refine w_putI dX0_forgetAll_7 f_X0_18 (by first | assumption | rfl) rfl ?_
  exact w_ret dX0_forgetAll_10 ⟨rfl, rfl, rfl⟩
