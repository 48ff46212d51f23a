def mri (a b w : Int32) : Nat → Nat → Bool → Bool
  | 0, _, is => is
  | r + 1, k, is => mri a b w r (k + 1) (is && !decide (zgo a b w true < zgo (nI k) b w true) && !decide (zgo a b w false < zgo a (nI k) w false))
def mrs (a b w : Int32) (x : Int32 × Int32) : Int32 × Int32 := (x.1 + (if mri a b w 5 0 true = true then 1 else 0), if mri a b w 5 0 true = true ∧ x.1 = 0 then 10 * a + b else x.2)
def mrb (w a : Int32) : Nat → Nat → Int32 × Int32 → Int32 × Int32
  | 0, _, x => x
  | r + 1, b, x => mrb w a r (b + 1) (mrs a (nI b) w x)
def mra (w : Int32) : Nat → Nat → Int32 × Int32 → Int32 × Int32
  | 0, _, x => x
  | r + 1, a, x => mra w r (a + 1) (mrb w (nI a) 5 0 x)
def mrI (I : Mem) (x : Int32 × Int32) : Mem := upI (upI I 89 20 x.1) 89 21 x.2
theorem mrI_20 {I : Mem} {x : Int32 × Int32} : mrI I x 89 20 = x.1 := by unfold mrI; rw [upI_tf (by decide), upI_tt]
theorem mrI_21 {I : Mem} {x : Int32 × Int32} : mrI I x 89 21 = x.2 := by unfold mrI; rw [upI_tt]
theorem mrI_s {I : Mem} {x : Int32 × Int32} {u v : Int32} : upI (upI (mrI I x) 89 21 v) 89 20 u = mrI I (u, v) := by
  funext p q
  unfold mrI upI
  by_cases hp : p = 89
  · rw [if_pos hp]
    by_cases h1 : q = 20
    · rw [if_pos h1, if_pos hp, if_neg (by omega), if_pos hp, if_pos h1]
    · rw [if_neg h1, if_pos hp]
      by_cases h2 : q = 21
      · rw [if_pos h2, if_pos hp, if_pos h2]
      · rw [if_neg h2, if_pos hp, if_neg h2, if_pos hp, if_neg h1, if_pos hp, if_neg h2, if_pos hp, if_neg h1]
  · simp only [if_neg hp]
set_option maxHeartbeats 4000000 in
set_option maxRecDepth 100000 in
theorem l_fr_k {I : Mem} {J : Lng} {w : Int32} {Z x : Int32 × Int32} {a b : Nat} : ∀ (r k : Nat) (is : Bool), 5 - k = r → k ≤ 5 → (∀ x5 : Option Value, q_w yX10_findRests.cls yX10_findRests.name cX10_findRests 6 .return_ 1 (fun st I2 J1 => st = [] ∧ I2 = mrI I Z ∧ J1 = J) 91 [some (.ref 89), some (.int (w)), some (.int (nI a)), some (.int (nI b)), some (.int (zB (mri (nI a) (nI b) w r k is))), x5] [] (mrI I x) (J)) → q_w yX10_findRests.cls yX10_findRests.name cX10_findRests 6 .return_ 1 (fun st I2 J1 => st = [] ∧ I2 = mrI I Z ∧ J1 = J) 31 [some (.ref 89), some (.int (w)), some (.int (nI a)), some (.int (nI b)), some (.int (zB is)), some (.int (nI k))] [] (mrI I x) (J) := by
  intro r
  induction r with
  | zero =>
    intro k is hr hk K
    obtain rfl : k = 5 := by omega
    refine w_iload dX10_findRests_31 rfl ?_
    refine w_iconst (v := 5) dX10_findRests_33 (by decide) ?_
    refine w_icmp_ge (tgt := 91) dX10_findRests_34 (by decide) (fun c_34 => ?_) (fun c_34 => absurd (show (5 : Int32) ≤ nI 5 by decide) c_34)
    exact K _
  | succ r ih =>
    intro k is hr hk K
    have hk5 : k < 5 := by omega
    unfold mri at K
    refine w_iload dX10_findRests_31 rfl ?_
    refine w_iconst (v := 5) dX10_findRests_33 (by decide) ?_
    refine w_icmp_ge (tgt := 91) dX10_findRests_34 (by decide) (fun c_34 => absurd c_34 (ge5 hk5)) (fun c_34 => ?_)
    refine w_iload dX10_findRests_37 rfl ?_
    refine w_if_eq (tgt := 82) dX10_findRests_39 (by decide) (fun c_39 => ?_) (fun c_39 => ?_)
    · refine w_iconst (v := 0) dX10_findRests_82 (by decide) ?_
      refine w_istore dX10_findRests_83 (by decide) rfl ?_
      refine w_iincv (c := 1) dX10_findRests_85 (by decide) rfl (by decide) rfl ?_
      refine w_goto (tgt := 31) dX10_findRests_88 (by decide) ?_
      rw [zB_eq0.mp c_39, Bool.false_and, Bool.false_and] at K
      rw [nI_1]
      exact ih (k + 1) _ (by omega) (by omega) K
    · refine w_iload dX10_findRests_42 rfl ?_
      refine w_iload_n dX10_findRests_44 rfl ?_
      refine w_iload_n dX10_findRests_45 rfl ?_
      refine w_iconst (v := 1) dX10_findRests_46 (by decide) ?_
      refine w_callSi dX10_findRests_47 k_X10_154 (c_X10_gainOf (h := true)) rfl rfl rfl (Nat.le_of_ble_eq_true rfl) (by first | decide | omega) ?_
      refine w_iload_n dX10_findRests_50 rfl ?_
      refine w_iload_n dX10_findRests_51 rfl ?_
      refine w_iload_n dX10_findRests_52 rfl ?_
      refine w_iconst (v := 1) dX10_findRests_53 (by decide) ?_
      refine w_callSi dX10_findRests_54 k_X10_154 (c_X10_gainOf (h := true)) rfl rfl rfl (Nat.le_of_ble_eq_true rfl) (by first | decide | omega) ?_
      refine w_icmp_gt (tgt := 82) dX10_findRests_57 (by decide) (fun c_57 => ?_) (fun c_57 => ?_)
      · refine w_iconst (v := 0) dX10_findRests_82 (by decide) ?_
        refine w_istore dX10_findRests_83 (by decide) rfl ?_
        refine w_iincv (c := 1) dX10_findRests_85 (by decide) rfl (by decide) rfl ?_
        refine w_goto (tgt := 31) dX10_findRests_88 (by decide) ?_
        rw [show decide (zgo (nI a) (nI b) w true < zgo (nI k) (nI b) w true) = true by simpa using c_57, Bool.not_true, Bool.and_false, Bool.false_and] at K
        rw [nI_1]
        exact ih (k + 1) _ (by omega) (by omega) K
      · refine w_iload_n dX10_findRests_60 rfl ?_
        refine w_iload dX10_findRests_61 rfl ?_
        refine w_iload_n dX10_findRests_63 rfl ?_
        refine w_iconst (v := 0) dX10_findRests_64 (by decide) ?_
        refine w_callSi dX10_findRests_65 k_X10_154 (c_X10_gainOf (h := false)) rfl rfl rfl (Nat.le_of_ble_eq_true rfl) (by first | decide | omega) ?_
        refine w_iload_n dX10_findRests_68 rfl ?_
        refine w_iload_n dX10_findRests_69 rfl ?_
        refine w_iload_n dX10_findRests_70 rfl ?_
        refine w_iconst (v := 0) dX10_findRests_71 (by decide) ?_
        refine w_callSi dX10_findRests_72 k_X10_154 (c_X10_gainOf (h := false)) rfl rfl rfl (Nat.le_of_ble_eq_true rfl) (by first | decide | omega) ?_
        refine w_icmp_gt (tgt := 82) dX10_findRests_75 (by decide) (fun c_75 => ?_) (fun c_75 => ?_)
        · refine w_iconst (v := 0) dX10_findRests_82 (by decide) ?_
          refine w_istore dX10_findRests_83 (by decide) rfl ?_
          refine w_iincv (c := 1) dX10_findRests_85 (by decide) rfl (by decide) rfl ?_
          refine w_goto (tgt := 31) dX10_findRests_88 (by decide) ?_
          rw [show decide (zgo (nI a) (nI b) w false < zgo (nI a) (nI k) w false) = true by simpa using c_75, Bool.not_true, Bool.and_false] at K
          rw [nI_1]
          exact ih (k + 1) _ (by omega) (by omega) K
        · refine w_iconst (v := 1) dX10_findRests_78 (by decide) ?_
          refine w_goto (tgt := 83) dX10_findRests_79 (by decide) ?_
          refine w_istore dX10_findRests_83 (by decide) rfl ?_
          refine w_iincv (c := 1) dX10_findRests_85 (by decide) rfl (by decide) rfl ?_
          refine w_goto (tgt := 31) dX10_findRests_88 (by decide) ?_
          rw [show is = true by simpa [zB_eq0] using c_39, show decide (zgo (nI a) (nI b) w true < zgo (nI k) (nI b) w true) = false by simpa using c_57, show decide (zgo (nI a) (nI b) w false < zgo (nI a) (nI k) w false) = false by simpa using c_75] at K
          rw [nI_1]
          exact ih (k + 1) _ (by omega) (by omega) K
set_option maxHeartbeats 4000000 in
set_option maxRecDepth 100000 in
theorem l_fr_b {I : Mem} {J : Lng} {w : Int32} {Z : Int32 × Int32} {a : Nat} : ∀ (r b : Nat) (x : Int32 × Int32) (x4 x5 : Option Value), 5 - b = r → b ≤ 5 → (∀ x3 x4 x5 : Option Value, q_w yX10_findRests.cls yX10_findRests.name cX10_findRests 6 .return_ 1 (fun st I2 J1 => st = [] ∧ I2 = mrI I Z ∧ J1 = J) 145 [some (.ref 89), some (.int (w)), some (.int (nI a)), x3, x4, x5] [] (mrI I (mrb w (nI a) r b x)) (J)) → q_w yX10_findRests.cls yX10_findRests.name cX10_findRests 6 .return_ 1 (fun st I2 J1 => st = [] ∧ I2 = mrI I Z ∧ J1 = J) 20 [some (.ref 89), some (.int (w)), some (.int (nI a)), some (.int (nI b)), x4, x5] [] (mrI I x) (J) := by
  intro r
  induction r with
  | zero =>
    intro b x x4 x5 hr hb K
    obtain rfl : b = 5 := by omega
    refine w_iload_n dX10_findRests_20 rfl ?_
    refine w_iconst (v := 5) dX10_findRests_21 (by decide) ?_
    refine w_icmp_ge (tgt := 145) dX10_findRests_22 (by decide) (fun c_22 => ?_) (fun c_22 => absurd (show (5 : Int32) ≤ nI 5 by decide) c_22)
    exact K _ _ _
  | succ r ih =>
    intro b x x4 x5 hr hb K
    have hb5 : b < 5 := by omega
    unfold mrb at K
    refine w_iload_n dX10_findRests_20 rfl ?_
    refine w_iconst (v := 5) dX10_findRests_21 (by decide) ?_
    refine w_icmp_ge (tgt := 145) dX10_findRests_22 (by decide) (fun c_22 => absurd c_22 (ge5 hb5)) (fun c_22 => ?_)
    refine w_iconst (v := 1) dX10_findRests_25 (by decide) ?_
    refine w_istore dX10_findRests_26 (by decide) rfl ?_
    refine w_iconst (v := 0) dX10_findRests_28 (by decide) ?_
    refine w_istore dX10_findRests_29 (by decide) rfl ?_
    refine l_fr_k (is := true) 5 0 rfl (by decide) (fun x5 => ?_)
    refine w_aload_n dX10_findRests_91 rfl ?_
    refine w_iload dX10_findRests_92 rfl ?_
    refine w_if_eq (tgt := 113) dX10_findRests_94 (by decide) (fun c_94 => ?_) (fun c_94 => ?_)
    · refine w_aload_n dX10_findRests_113 rfl ?_
      refine w_getI dX10_findRests_114 f_X10_151 (by first | assumption | rfl) rfl ?_
      refine w_putI dX10_findRests_117 f_X10_151 (by first | assumption | rfl) rfl ?_
      refine w_aload_n dX10_findRests_120 rfl ?_
      refine w_dup dX10_findRests_121 rfl ?_
      refine w_getI dX10_findRests_122 f_X10_148 (by first | assumption | rfl) rfl ?_
      refine w_iload dX10_findRests_125 rfl ?_
      refine w_if_eq (tgt := 134) dX10_findRests_127 (by decide) (fun c_127 => ?_) (fun c_127 => absurd c_94 c_127)
      refine w_iconst (v := 0) dX10_findRests_134 (by decide) ?_
      refine w_iadd dX10_findRests_135 ?_
      refine w_putI dX10_findRests_136 f_X10_148 (by first | assumption | rfl) rfl ?_
      refine w_iincv (c := 1) dX10_findRests_139 (by decide) rfl (by decide) rfl ?_
      refine w_goto (tgt := 20) dX10_findRests_142 (by decide) ?_
      refine w_show (L2 := _) (st2 := _) (I2 := mrI I (mrs (nI a) (nI b) w x)) (J2 := J) ?_ rfl rfl ?_ rfl
      · rw [nI_1]
        exact ih (b + 1) _ _ _ (by omega) (by omega) K
      · rw [upI_tf (by decide), mrI_20, mrI_21, mrI_s]; unfold mrs; rw [zB_eq0.mp c_94]; rfl
    · refine w_aload_n dX10_findRests_97 rfl ?_
      refine w_getI dX10_findRests_98 f_X10_148 (by first | assumption | rfl) rfl ?_
      refine w_if_ne (tgt := 113) dX10_findRests_101 (by decide) (fun c_101 => ?_) (fun c_101 => ?_)
      · refine w_aload_n dX10_findRests_113 rfl ?_
        refine w_getI dX10_findRests_114 f_X10_151 (by first | assumption | rfl) rfl ?_
        refine w_putI dX10_findRests_117 f_X10_151 (by first | assumption | rfl) rfl ?_
        refine w_aload_n dX10_findRests_120 rfl ?_
        refine w_dup dX10_findRests_121 rfl ?_
        refine w_getI dX10_findRests_122 f_X10_148 (by first | assumption | rfl) rfl ?_
        refine w_iload dX10_findRests_125 rfl ?_
        refine w_if_eq (tgt := 134) dX10_findRests_127 (by decide) (fun c_127 => absurd c_127 c_94) (fun c_127 => ?_)
        refine w_iconst (v := 1) dX10_findRests_130 (by decide) ?_
        refine w_goto (tgt := 135) dX10_findRests_131 (by decide) ?_
        refine w_iadd dX10_findRests_135 ?_
        refine w_putI dX10_findRests_136 f_X10_148 (by first | assumption | rfl) rfl ?_
        refine w_iincv (c := 1) dX10_findRests_139 (by decide) rfl (by decide) rfl ?_
        refine w_goto (tgt := 20) dX10_findRests_142 (by decide) ?_
        refine w_show (L2 := _) (st2 := _) (I2 := mrI I (mrs (nI a) (nI b) w x)) (J2 := J) ?_ rfl rfl ?_ rfl
        · rw [nI_1]
          exact ih (b + 1) _ _ _ (by omega) (by omega) K
        · rw [upI_tf (by decide), mrI_20, mrI_21, mrI_s]; unfold mrs; rw [show mri (nI a) (nI b) w 5 0 true = true by simpa [zB_eq0] using c_94, if_pos rfl, if_neg (fun q => c_101 (by rw [mrI_20]; exact q.2))]
      · refine w_bipush (v := 10) dX10_findRests_104 (by decide) ?_
        refine w_iload_n dX10_findRests_106 rfl ?_
        refine w_imul dX10_findRests_107 ?_
        refine w_iload_n dX10_findRests_108 rfl ?_
        refine w_iadd dX10_findRests_109 ?_
        refine w_goto (tgt := 117) dX10_findRests_110 (by decide) ?_
        refine w_putI dX10_findRests_117 f_X10_151 (by first | assumption | rfl) rfl ?_
        refine w_aload_n dX10_findRests_120 rfl ?_
        refine w_dup dX10_findRests_121 rfl ?_
        refine w_getI dX10_findRests_122 f_X10_148 (by first | assumption | rfl) rfl ?_
        refine w_iload dX10_findRests_125 rfl ?_
        refine w_if_eq (tgt := 134) dX10_findRests_127 (by decide) (fun c_127 => absurd c_127 c_94) (fun c_127 => ?_)
        refine w_iconst (v := 1) dX10_findRests_130 (by decide) ?_
        refine w_goto (tgt := 135) dX10_findRests_131 (by decide) ?_
        refine w_iadd dX10_findRests_135 ?_
        refine w_putI dX10_findRests_136 f_X10_148 (by first | assumption | rfl) rfl ?_
        refine w_iincv (c := 1) dX10_findRests_139 (by decide) rfl (by decide) rfl ?_
        refine w_goto (tgt := 20) dX10_findRests_142 (by decide) ?_
        refine w_show (L2 := _) (st2 := _) (I2 := mrI I (mrs (nI a) (nI b) w x)) (J2 := J) ?_ rfl rfl ?_ rfl
        · rw [nI_1]
          exact ih (b + 1) _ _ _ (by omega) (by omega) K
        · rw [upI_tf (by decide), mrI_20, mrI_s]; unfold mrs; rw [show mri (nI a) (nI b) w 5 0 true = true by simpa [zB_eq0] using c_94, if_pos rfl, if_pos ⟨rfl, by rw [mrI_20] at c_101; exact c_101⟩]
set_option maxHeartbeats 4000000 in
set_option maxRecDepth 100000 in
theorem l_fr_a {I : Mem} {J : Lng} {w : Int32} {Z : Int32 × Int32} : ∀ (r a : Nat) (x : Int32 × Int32) (x3 x4 x5 : Option Value), 5 - a = r → a ≤ 5 → mra w r a x = Z → q_w yX10_findRests.cls yX10_findRests.name cX10_findRests 6 .return_ 1 (fun st I2 J1 => st = [] ∧ I2 = mrI I Z ∧ J1 = J) 13 [some (.ref 89), some (.int (w)), some (.int (nI a)), x3, x4, x5] [] (mrI I x) (J) := by
  intro r
  induction r with
  | zero =>
    intro a x x3 x4 x5 hr ha hZ
    obtain rfl : a = 5 := by omega
    have hZ2 : x = Z := hZ
    refine w_iload_n dX10_findRests_13 rfl ?_
    refine w_iconst (v := 5) dX10_findRests_14 (by decide) ?_
    refine w_icmp_ge (tgt := 151) dX10_findRests_15 (by decide) (fun c_15 => ?_) (fun c_15 => absurd (show (5 : Int32) ≤ nI 5 by decide) c_15)
    exact w_ret dX10_findRests_151 ⟨rfl, by rw [hZ2], rfl⟩
  | succ r ih =>
    intro a x x3 x4 x5 hr ha hZ
    have ha5 : a < 5 := by omega
    refine w_iload_n dX10_findRests_13 rfl ?_
    refine w_iconst (v := 5) dX10_findRests_14 (by decide) ?_
    refine w_icmp_ge (tgt := 151) dX10_findRests_15 (by decide) (fun c_15 => absurd c_15 (ge5 ha5)) (fun c_15 => ?_)
    refine w_iconst (v := 0) dX10_findRests_18 (by decide) ?_
    refine w_istore_n dX10_findRests_19 (by decide) rfl ?_
    refine l_fr_b 5 0 x _ _ rfl (by decide) (fun x3 x4 x5 => ?_)
    refine w_iincv (c := 1) dX10_findRests_145 (by decide) rfl (by decide) rfl ?_
    refine w_goto (tgt := 13) dX10_findRests_148 (by decide) ?_
    rw [nI_1]
    exact ih (a + 1) _ _ _ _ (by omega) (by omega) hZ
set_option maxHeartbeats 4000000 in
set_option maxRecDepth 100000 in
theorem c_X10_findRests {I : Mem} {J : Lng} {w : Int32} : q_E yX10_findRests cX10_findRests 6 none 1 [.ref 89, .int w] I J none (mrI I (mra w 5 0 (0, -9))) (J) := by
  refine q_Ev me_X10_findRests rfl (Nat.le_of_ble_eq_true rfl) ?_
  show q_w _ _ _ _ _ _ _ 0 [some (.ref 89), some (.int w), none, none, none, none] [] I J
  refine w_aload_n dX10_findRests_0 rfl ?_
  refine w_iconst (v := 0) dX10_findRests_1 (by decide) ?_
  refine w_putI dX10_findRests_2 f_X10_148 (by first | assumption | rfl) rfl ?_
  refine w_aload_n dX10_findRests_5 rfl ?_
  refine w_bipush (v := (-9)) dX10_findRests_6 (by decide) ?_
  refine w_putI dX10_findRests_8 f_X10_151 (by first | assumption | rfl) rfl ?_
  refine w_iconst (v := 0) dX10_findRests_11 (by decide) ?_
  refine w_istore_n dX10_findRests_12 (by decide) rfl ?_
  exact l_fr_a (I := I) 5 0 (0, -9) _ _ _ rfl (by decide) rfl
