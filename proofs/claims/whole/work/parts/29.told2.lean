/-- the land that a text tells, its first k people -/
def zmk (I : Mem) : Nat → Mem
  | 0 => upI (upI (zclr I 3) 3 6 (I 2 1 - 48)) 3 7 (I 2 2 - 48)
  | k + 1 => zgain (zmk I k) 3 k (if k = 0 then -9 else I 2 (4 * k + 4) - 48) (decide (I 2 (4 * k + 5) - 48 = 1)) (I 2 (4 * k + 6) - 48)
def zmkF (I : Mem) (n : Nat) : Mem := upI (zmk I n) 3 5 (if n = 0 then -9 else 0)
theorem LO.tr {t : Nat} {I I1 I2 : Mem} (h : LO t I I1) (h2 : LO t I1 I2) : LO t I I2 := fun p a b c => (h2 p a b c).trans (h p a b c)
theorem LO.up {t f : Nat} {v : Int32} {I : Mem} : LO t I (upI I t f v) := fun p a _ _ => upI_ne a
theorem zmk_o (I : Mem) : ∀ k, LO 3 I (zmk I k)
  | 0 => ((zclr_o I 3).tr LO.up).tr LO.up
  | k + 1 => (zmk_o I k).tr (zgain_o _ _ _ _ _ _)
theorem zmk_n (I : Mem) : ∀ k, zmk I k 3 3 = nI k
  | 0 => by
    unfold zmk zclr
    simp only [upI_tf (show (3 : Nat) ≠ 7 by decide), upI_tf (show (3 : Nat) ≠ 6 by decide), upI_tf (show (3 : Nat) ≠ 9 by decide), upI_tf (show (3 : Nat) ≠ 8 by decide), upI_tf (show (3 : Nat) ≠ 5 by decide), upI_tf (show (3 : Nat) ≠ 4 by decide), upI_tt]
    rfl
  | k + 1 => by unfold zmk zgain; exact upI_tt
set_option maxHeartbeats 4000000 in
set_option maxRecDepth 100000 in
theorem l_X8_makeAnew {I : Mem} {J : Lng} {n : Nat} (hT : TR I (3 + 4 * n)) (hn : n ≤ 7) : ∀ (r k : Nat) (x3 : Option Value), n - k = r → k ≤ n → q_w yX8_makeAnew.cls yX8_makeAnew.name cX8_makeAnew 4 .return_ 1 (fun st I1 J1 => st = [] ∧ I1 = zmkF I n ∧ J1 = J) 24 [some (.ref 1), some (.ref 3), some (.int (nI (3 + 4 * k))), x3] [] (zmk I k) (J) := by
  obtain ⟨h1, h2⟩ := hT
  obtain ⟨ht0, ht1, ht2⟩ := SH_land l3
  intro r
  induction r with
  | zero =>
    intro k x3 hr hk
    obtain rfl : k = n := by omega
    have h1k : zmk I k 1 = I 1 := zmk_o I k 1 (by decide) (by decide) (by decide)
    have hc : zmk I k 1 1 < nI (3 + 4 * k) + 4 := by rw [h1k, h1, show nI (3 + 4 * k) + 4 = nI (3 + 4 * k + 4) from nI_add _ 4]; exact nI_lt (by omega) (by omega)
    refine w_iload_n dX8_makeAnew_24 rfl ?_
    refine w_iconst (v := 4) dX8_makeAnew_25 (by decide) ?_
    refine w_iadd dX8_makeAnew_26 ?_
    refine w_aload_n dX8_makeAnew_27 rfl ?_
    refine w_getI dX8_makeAnew_28 f_X8_15 (by first | assumption | rfl) rfl ?_
    refine w_icmp_gt (tgt := 96) dX8_makeAnew_31 (by decide) (fun c_31 => ?_) (fun c_31 => absurd hc c_31)
    refine w_aload_n dX8_makeAnew_96 rfl ?_
    refine w_aload_n dX8_makeAnew_97 rfl ?_
    refine w_getI dX8_makeAnew_98 f_X8_47 (by first | assumption | rfl) rfl ?_
    refine w_if_ne (tgt := 109) dX8_makeAnew_101 (by decide) (fun c_101 => ?_) (fun c_101 => ?_)
    · refine w_iconst (v := 0) dX8_makeAnew_109 (by decide) ?_
      refine w_putI dX8_makeAnew_110 f_X8_54 (by first | assumption | rfl) rfl ?_
      refine w_ret dX8_makeAnew_113 ⟨rfl, ?_, rfl⟩
      unfold zmkF
      rw [if_neg (fun e => c_101 (by rw [zmk_n, e]; rfl))]
    · refine w_bipush (v := (-9)) dX8_makeAnew_104 (by decide) ?_
      refine w_goto (tgt := 110) dX8_makeAnew_106 (by decide) ?_
      refine w_putI dX8_makeAnew_110 f_X8_54 (by first | assumption | rfl) rfl ?_
      refine w_ret dX8_makeAnew_113 ⟨rfl, ?_, rfl⟩
      unfold zmkF
      rw [if_pos (nI_inj (by omega) (by decide) ((zmk_n I k).symm.trans c_101))]
  | succ r ih =>
    intro k x3 hr hk
    have hkn : k < n := by omega
    have h1k : zmk I k 1 = I 1 := zmk_o I k 1 (by decide) (by decide) (by decide)
    have h2k : zmk I k 2 = I 2 := zmk_o I k 2 (by decide) (by decide) (by decide)
    have hFk : FM (zmk I k) 3 k := ⟨zmk_n I k, by omega⟩
    have hc : ¬ zmk I k 1 1 < nI (3 + 4 * k) + 4 := by rw [h1k, h1, show nI (3 + 4 * k) + 4 = nI (3 + 4 * k + 4) from nI_add _ 4]; exact nI_nlt (by omega) (by omega)
    have hc2 : ¬ (40 : Int32) < nI (3 + 4 * k) + 4 := by rw [show nI (3 + 4 * k) + 4 = nI (3 + 4 * k + 4) from nI_add _ 4]; exact nI_nlt (b := 3 + 4 * k + 4) (a := 40) (by omega) (by omega)
    have hf1 := c_X8_figureAt (I := zmk I k) (J := J) (p := 4 * k + 4) (by omega)
    have hf2 := c_X8_figureAt (I := zmk I k) (J := J) (p := 4 * k + 5) (by omega)
    have hf3 := c_X8_figureAt (I := zmk I k) (J := J) (p := 4 * k + 6) (by omega)
    rw [h2k] at hf1 hf2 hf3
    have e1 : nI (3 + 4 * k) + 1 = nI (4 * k + 4) := (nI_add _ 1).trans (by congr 1; omega)
    have e2 : nI (3 + 4 * k) + 2 = nI (4 * k + 5) := (nI_add _ 2).trans (by congr 1; omega)
    have e3 : nI (3 + 4 * k) + 3 = nI (4 * k + 6) := (nI_add _ 3).trans (by congr 1; omega)
    refine w_iload_n dX8_makeAnew_24 rfl ?_
    refine w_iconst (v := 4) dX8_makeAnew_25 (by decide) ?_
    refine w_iadd dX8_makeAnew_26 ?_
    refine w_aload_n dX8_makeAnew_27 rfl ?_
    refine w_getI dX8_makeAnew_28 f_X8_15 (by first | assumption | rfl) rfl ?_
    refine w_icmp_gt (tgt := 96) dX8_makeAnew_31 (by decide) (fun c_31 => absurd c_31 hc) (fun c_31 => ?_)
    refine w_iload_n dX8_makeAnew_34 rfl ?_
    refine w_iconst (v := 4) dX8_makeAnew_35 (by decide) ?_
    refine w_iadd dX8_makeAnew_36 ?_
    refine w_bipush (v := 40) dX8_makeAnew_37 (by decide) ?_
    refine w_icmp_gt (tgt := 96) dX8_makeAnew_39 (by decide) (fun c_39 => absurd c_39 hc2) (fun c_39 => ?_)
    refine w_aload_n dX8_makeAnew_42 rfl ?_
    refine w_getI dX8_makeAnew_43 f_X8_47 (by first | assumption | rfl) rfl ?_
    refine w_if_ne (tgt := 54) dX8_makeAnew_46 (by decide) (fun c_46 => ?_) (fun c_46 => ?_)
    · refine w_aload_n dX8_makeAnew_54 rfl ?_
      refine w_iload_n dX8_makeAnew_55 rfl ?_
      refine w_iconst (v := 1) dX8_makeAnew_56 (by decide) ?_
      refine w_iadd dX8_makeAnew_57 ?_
      rw [e1]
      refine w_callVi dX8_makeAnew_58 k_X8_37 (by first | assumption | rfl) rfl (hf1) rfl rfl rfl (Nat.le_of_ble_eq_true rfl) (by first | decide | omega) ?_
      refine w_istore_n dX8_makeAnew_61 (by decide) rfl ?_
      refine w_aload_n dX8_makeAnew_62 rfl ?_
      refine w_iload_n dX8_makeAnew_63 rfl ?_
      refine w_aload_n dX8_makeAnew_64 rfl ?_
      refine w_iload_n dX8_makeAnew_65 rfl ?_
      refine w_iconst (v := 2) dX8_makeAnew_66 (by decide) ?_
      refine w_iadd dX8_makeAnew_67 ?_
      rw [e2]
      refine w_callVi dX8_makeAnew_68 k_X8_37 (by first | assumption | rfl) rfl (hf2) rfl rfl rfl (Nat.le_of_ble_eq_true rfl) (by first | decide | omega) ?_
      refine w_iconst (v := 1) dX8_makeAnew_71 (by decide) ?_
      refine w_icmp_ne (tgt := 79) dX8_makeAnew_72 (by decide) (fun c_72 => ?_) (fun c_72 => ?_)
      · refine w_iconst (v := 0) dX8_makeAnew_79 (by decide) ?_
        refine w_aload_n dX8_makeAnew_80 rfl ?_
        refine w_iload_n dX8_makeAnew_81 rfl ?_
        refine w_iconst (v := 3) dX8_makeAnew_82 (by decide) ?_
        refine w_iadd dX8_makeAnew_83 ?_
        rw [e3]
        refine w_callVi dX8_makeAnew_84 k_X8_37 (by first | assumption | rfl) rfl (hf3) rfl rfl rfl (Nat.le_of_ble_eq_true rfl) (by first | decide | omega) ?_
        refine w_callVv dX8_makeAnew_87 k_X8_50 (by first | assumption | rfl) rfl (c_X6_gains l3 hFk (by omega) (b := false)) rfl rfl rfl (Nat.le_of_ble_eq_true rfl) (by first | decide | omega) ?_
        refine w_iincv (c := 4) dX8_makeAnew_90 (by decide) rfl (by decide) rfl ?_
        refine w_goto (tgt := 24) dX8_makeAnew_93 (by decide) ?_
        refine w_mem (I2 := zmk I (k + 1)) ?_ ?_
        · show _ = zgain (zmk I k) 3 k (if k = 0 then -9 else I 2 (4 * k + 4) - 48) (decide (I 2 (4 * k + 5) - 48 = 1)) (I 2 (4 * k + 6) - 48)
          rw [if_neg (fun e : k = 0 => c_46 (by rw [zmk_n, e]; rfl)), show decide (I 2 (4 * k + 5) - 48 = 1) = false by simpa using c_72]
        · rw [show nI (3 + 4 * k) + 4 = nI (3 + 4 * (k + 1)) from (nI_add _ 4).trans (by congr 1)]
          exact ih (k + 1) _ (by omega) (by omega)
      · refine w_iconst (v := 1) dX8_makeAnew_75 (by decide) ?_
        refine w_goto (tgt := 80) dX8_makeAnew_76 (by decide) ?_
        refine w_aload_n dX8_makeAnew_80 rfl ?_
        refine w_iload_n dX8_makeAnew_81 rfl ?_
        refine w_iconst (v := 3) dX8_makeAnew_82 (by decide) ?_
        refine w_iadd dX8_makeAnew_83 ?_
        rw [e3]
        refine w_callVi dX8_makeAnew_84 k_X8_37 (by first | assumption | rfl) rfl (hf3) rfl rfl rfl (Nat.le_of_ble_eq_true rfl) (by first | decide | omega) ?_
        refine w_callVv dX8_makeAnew_87 k_X8_50 (by first | assumption | rfl) rfl (c_X6_gains l3 hFk (by omega) (b := true)) rfl rfl rfl (Nat.le_of_ble_eq_true rfl) (by first | decide | omega) ?_
        refine w_iincv (c := 4) dX8_makeAnew_90 (by decide) rfl (by decide) rfl ?_
        refine w_goto (tgt := 24) dX8_makeAnew_93 (by decide) ?_
        refine w_mem (I2 := zmk I (k + 1)) ?_ ?_
        · show _ = zgain (zmk I k) 3 k (if k = 0 then -9 else I 2 (4 * k + 4) - 48) (decide (I 2 (4 * k + 5) - 48 = 1)) (I 2 (4 * k + 6) - 48)
          rw [if_neg (fun e : k = 0 => c_46 (by rw [zmk_n, e]; rfl)), show decide (I 2 (4 * k + 5) - 48 = 1) = true by simpa using c_72]
        · rw [show nI (3 + 4 * k) + 4 = nI (3 + 4 * (k + 1)) from (nI_add _ 4).trans (by congr 1)]
          exact ih (k + 1) _ (by omega) (by omega)
    · refine w_bipush (v := (-9)) dX8_makeAnew_49 (by decide) ?_
      refine w_goto (tgt := 61) dX8_makeAnew_51 (by decide) ?_
      refine w_istore_n dX8_makeAnew_61 (by decide) rfl ?_
      refine w_aload_n dX8_makeAnew_62 rfl ?_
      refine w_iload_n dX8_makeAnew_63 rfl ?_
      refine w_aload_n dX8_makeAnew_64 rfl ?_
      refine w_iload_n dX8_makeAnew_65 rfl ?_
      refine w_iconst (v := 2) dX8_makeAnew_66 (by decide) ?_
      refine w_iadd dX8_makeAnew_67 ?_
      rw [e2]
      refine w_callVi dX8_makeAnew_68 k_X8_37 (by first | assumption | rfl) rfl (hf2) rfl rfl rfl (Nat.le_of_ble_eq_true rfl) (by first | decide | omega) ?_
      refine w_iconst (v := 1) dX8_makeAnew_71 (by decide) ?_
      refine w_icmp_ne (tgt := 79) dX8_makeAnew_72 (by decide) (fun c_72 => ?_) (fun c_72 => ?_)
      · refine w_iconst (v := 0) dX8_makeAnew_79 (by decide) ?_
        refine w_aload_n dX8_makeAnew_80 rfl ?_
        refine w_iload_n dX8_makeAnew_81 rfl ?_
        refine w_iconst (v := 3) dX8_makeAnew_82 (by decide) ?_
        refine w_iadd dX8_makeAnew_83 ?_
        rw [e3]
        refine w_callVi dX8_makeAnew_84 k_X8_37 (by first | assumption | rfl) rfl (hf3) rfl rfl rfl (Nat.le_of_ble_eq_true rfl) (by first | decide | omega) ?_
        refine w_callVv dX8_makeAnew_87 k_X8_50 (by first | assumption | rfl) rfl (c_X6_gains l3 hFk (by omega) (b := false)) rfl rfl rfl (Nat.le_of_ble_eq_true rfl) (by first | decide | omega) ?_
        refine w_iincv (c := 4) dX8_makeAnew_90 (by decide) rfl (by decide) rfl ?_
        refine w_goto (tgt := 24) dX8_makeAnew_93 (by decide) ?_
        refine w_mem (I2 := zmk I (k + 1)) ?_ ?_
        · show _ = zgain (zmk I k) 3 k (if k = 0 then -9 else I 2 (4 * k + 4) - 48) (decide (I 2 (4 * k + 5) - 48 = 1)) (I 2 (4 * k + 6) - 48)
          rw [if_pos (nI_inj (by omega) (by decide) ((zmk_n I k).symm.trans c_46)), show decide (I 2 (4 * k + 5) - 48 = 1) = false by simpa using c_72]
        · rw [show nI (3 + 4 * k) + 4 = nI (3 + 4 * (k + 1)) from (nI_add _ 4).trans (by congr 1)]
          exact ih (k + 1) _ (by omega) (by omega)
      · refine w_iconst (v := 1) dX8_makeAnew_75 (by decide) ?_
        refine w_goto (tgt := 80) dX8_makeAnew_76 (by decide) ?_
        refine w_aload_n dX8_makeAnew_80 rfl ?_
        refine w_iload_n dX8_makeAnew_81 rfl ?_
        refine w_iconst (v := 3) dX8_makeAnew_82 (by decide) ?_
        refine w_iadd dX8_makeAnew_83 ?_
        rw [e3]
        refine w_callVi dX8_makeAnew_84 k_X8_37 (by first | assumption | rfl) rfl (hf3) rfl rfl rfl (Nat.le_of_ble_eq_true rfl) (by first | decide | omega) ?_
        refine w_callVv dX8_makeAnew_87 k_X8_50 (by first | assumption | rfl) rfl (c_X6_gains l3 hFk (by omega) (b := true)) rfl rfl rfl (Nat.le_of_ble_eq_true rfl) (by first | decide | omega) ?_
        refine w_iincv (c := 4) dX8_makeAnew_90 (by decide) rfl (by decide) rfl ?_
        refine w_goto (tgt := 24) dX8_makeAnew_93 (by decide) ?_
        refine w_mem (I2 := zmk I (k + 1)) ?_ ?_
        · show _ = zgain (zmk I k) 3 k (if k = 0 then -9 else I 2 (4 * k + 4) - 48) (decide (I 2 (4 * k + 5) - 48 = 1)) (I 2 (4 * k + 6) - 48)
          rw [if_pos (nI_inj (by omega) (by decide) ((zmk_n I k).symm.trans c_46)), show decide (I 2 (4 * k + 5) - 48 = 1) = true by simpa using c_72]
        · rw [show nI (3 + 4 * k) + 4 = nI (3 + 4 * (k + 1)) from (nI_add _ 4).trans (by congr 1)]
          exact ih (k + 1) _ (by omega) (by omega)
set_option maxHeartbeats 4000000 in
set_option maxRecDepth 100000 in
theorem c_X8_makeAnew {I : Mem} {J : Lng} {n : Nat} (hT : TR I (3 + 4 * n)) (hn : n ≤ 7) : q_E yX8_makeAnew cX8_makeAnew 4 none 1 [.ref 1, .ref 3] I J none (zmkF I n) (J) := by
  obtain ⟨ht0, ht1, ht2⟩ := SH_land l3
  have hclr : zclr I 3 2 = I 2 := zclr_o I 3 2 (by decide) (by decide) (by decide)
  have hf1 := c_X8_figureAt (I := zclr I 3) (J := J) (p := 1) (by decide)
  have hf2 := c_X8_figureAt (I := upI (zclr I 3) 3 6 (I 2 1 - 48)) (J := J) (p := 2) (by decide)
  rw [hclr] at hf1
  rw [upI_ne (by decide), hclr] at hf2
  refine q_Ev me_X8_makeAnew rfl (Nat.le_of_ble_eq_true rfl) ?_
  show q_w _ _ _ _ _ _ _ 0 [some (.ref 1), some (.ref 3), none, none] [] I J
  refine w_aload_n dX8_makeAnew_0 rfl ?_
  refine w_callVv dX8_makeAnew_1 k_X8_32 (by first | assumption | rfl) rfl (c_X6_clear l3) rfl rfl rfl (Nat.le_of_ble_eq_true rfl) (by first | decide | omega) ?_
  refine w_aload_n dX8_makeAnew_4 rfl ?_
  refine w_aload_n dX8_makeAnew_5 rfl ?_
  refine w_iconst (v := 1) dX8_makeAnew_6 (by decide) ?_
  refine w_callVi dX8_makeAnew_7 k_X8_37 (by first | assumption | rfl) rfl (hf1) rfl rfl rfl (Nat.le_of_ble_eq_true rfl) (by first | decide | omega) ?_
  refine w_putI dX8_makeAnew_10 f_X8_41 (by first | assumption | rfl) rfl ?_
  refine w_aload_n dX8_makeAnew_13 rfl ?_
  refine w_aload_n dX8_makeAnew_14 rfl ?_
  refine w_iconst (v := 2) dX8_makeAnew_15 (by decide) ?_
  refine w_callVi dX8_makeAnew_16 k_X8_37 (by first | assumption | rfl) rfl (hf2) rfl rfl rfl (Nat.le_of_ble_eq_true rfl) (by first | decide | omega) ?_
  refine w_putI dX8_makeAnew_19 f_X8_44 (by first | assumption | rfl) rfl ?_
  refine w_iconst (v := 3) dX8_makeAnew_22 (by decide) ?_
  refine w_istore_n dX8_makeAnew_23 (by decide) rfl ?_
  exact l_X8_makeAnew hT hn n 0 _ (by omega) (Nat.zero_le _)
