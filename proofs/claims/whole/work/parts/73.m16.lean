/-- a row of cuts: what is left, the sum, the figures; none: it cannot be cut so -/
def mbk (q : Nat) : Nat → Int32 → Int32 → Int32 → Option (Int32 × Int32 × Int32)
  | 0, l, s, f => some (l, s, f)
  | k + 1, l, s, f => if l < nI (q / 4 ^ k % 4) then none else mbk q k (l + (if nI (q / 4 ^ k % 4) = 0 ∧ l = 9 then 0 else 1 - nI (q / 4 ^ k % 4))) (s + nI (q / 4 ^ k % 4)) (10 * f + nI (q / 4 ^ k % 4))
def mbs (own : Bool) (t : Int32) (n q : Nat) (x : Int32 × Int32) : Int32 × Int32 := match mbk q n t 0 1 with
  | none => x
  | some y => if x.1 < y.2.1 + cond own (2 * y.1) 0 then (y.2.1 + cond own (2 * y.1) 0, y.2.2) else x
def mba (own : Bool) (t : Int32) (n : Nat) : Nat → Nat → Int32 × Int32 → Int32 × Int32
  | 0, _, x => x
  | r + 1, q, x => mba own t n r (q + 1) (mbs own t n q x)
def mbI (I : Mem) (x : Int32 × Int32) : Mem := upI (upI I 89 18 x.1) 89 19 x.2
theorem mbI_18 {I : Mem} {x : Int32 × Int32} : mbI I x 89 18 = x.1 := by unfold mbI; rw [upI_tf (by decide), upI_tt]
theorem mbI_o {I : Mem} {x : Int32 × Int32} {p : Nat} (h : p ≠ 89) : mbI I x p = I p := by unfold mbI; rw [upI_ne h, upI_ne h]
theorem mbI_s {I : Mem} {x : Int32 × Int32} {u v : Int32} : upI (upI (mbI I x) 89 18 u) 89 19 v = mbI I (u, v) := by
  funext p q
  unfold mbI upI
  by_cases hp : p = 89
  · rw [if_pos hp]
    by_cases h1 : q = 19
    · rw [if_pos h1, if_pos hp, if_pos h1]
    · rw [if_neg h1, if_pos hp]
      by_cases h2 : q = 18
      · rw [if_pos h2, if_pos hp, if_neg h1, if_pos hp, if_pos h2]
      · rw [if_neg h2, if_pos hp, if_neg h1, if_pos hp, if_neg h2, if_pos hp, if_neg h1, if_pos hp, if_neg h2]
  · simp only [if_neg hp]
theorem i_nl {a b : Int32} (h : a ≤ b) : ¬ b < a := by rw [ti_lt]; rw [ti_le] at h; omega
theorem i_lt {a b : Int32} (h : ¬ a ≤ b) : b < a := by rw [ti_lt]; rw [ti_le] at h; omega
theorem f_ne : ∀ i, i < 5 → ¬ nI (4 ^ i) = 0 := by decide
theorem f_lt : ∀ i, i < 5 → 0 < 4 ^ i ∧ 4 ^ i < 1000 := by decide
theorem f_div {q i : Nat} (hq : q < 2 ^ 31) (hi : i < 5) : nI q / nI (4 ^ i) = nI (q / 4 ^ i) := pk_div hq (f_lt i hi).1 (by have := (f_lt i hi).2; omega)
set_option maxHeartbeats 4000000 in
set_option maxRecDepth 100000 in
theorem l_fb_k {I I1 : Mem} {J : Lng} {n q : Nat} {own : Bool} {Z : Int32 × Int32} {Y : Option (Int32 × Int32 × Int32)} (hn : n < 5) (hq : q < 2 ^ 31) (K : ∀ (l s f : Int32) (v8 x9 : Option Value), Y = some (l, s, f) → q_w yX10_findBest.cls yX10_findBest.name cX10_findBest 10 .return_ 1 (fun st I2 J1 => st = [] ∧ I2 = mbI I Z ∧ J1 = J) 128 [some (.ref 89), some (.int (nI n)), some (.int (zB own)), some (.int (nI q)), some (.int (l)), some (.int (s)), some (.int (f)), some (.int (1)), v8, x9] [] (I1) (J)) (K0 : ∀ (l s f : Int32) (v8 x9 : Option Value), Y = none → q_w yX10_findBest.cls yX10_findBest.name cX10_findBest 10 .return_ 1 (fun st I2 J1 => st = [] ∧ I2 = mbI I Z ∧ J1 = J) 128 [some (.ref 89), some (.int (nI n)), some (.int (zB own)), some (.int (nI q)), some (.int (l)), some (.int (s)), some (.int (f)), some (.int (0)), v8, x9] [] (I1) (J)) : ∀ (k : Nat) (l s f : Int32) (x9 : Option Value), k ≤ n → mbk q k l s f = Y → q_w yX10_findBest.cls yX10_findBest.name cX10_findBest 10 .return_ 1 (fun st I2 J1 => st = [] ∧ I2 = mbI I Z ∧ J1 = J) 44 [some (.ref 89), some (.int (nI n)), some (.int (zB own)), some (.int (nI q)), some (.int (l)), some (.int (s)), some (.int (f)), some (.int (1)), some (.int (nI k - 1)), x9] [] (I1) (J) := by
  intro k
  induction k with
  | zero =>
    intro l s f x9 hk hY
    have hY2 : Y = some (l, s, f) := hY.symm
    refine w_iload dX10_findBest_44 rfl ?_
    refine w_if_lt (tgt := 128) dX10_findBest_46 (by decide) (fun c_46 => ?_) (fun c_46 => absurd m1_lt c_46)
    exact K _ _ _ _ _ hY2
  | succ k ih =>
    intro l s f x9 hk hY
    have hpw := c_X10_power (I := I1) (J := J) (b := 4) (e := k) (by omega)
    unfold mbk at hY
    rw [nI_pred]
    refine w_iload dX10_findBest_44 rfl ?_
    refine w_if_lt (tgt := 128) dX10_findBest_46 (by decide) (fun c_46 => absurd c_46 (nI_pos (by omega))) (fun c_46 => ?_)
    refine w_iload dX10_findBest_49 rfl ?_
    refine w_if_eq (tgt := 128) dX10_findBest_51 (by decide) (fun c_51 => absurd c_51 (by decide)) (fun c_51 => ?_)
    refine w_iload_n dX10_findBest_54 rfl ?_
    refine w_iconst (v := 4) dX10_findBest_55 (by decide) ?_
    refine w_iload dX10_findBest_56 rfl ?_
    refine w_callSi dX10_findBest_58 k_X10_136 (hpw) rfl rfl rfl (Nat.le_of_ble_eq_true rfl) (by first | decide | omega) ?_
    refine w_idiv dX10_findBest_61 (f_ne k (by omega)) ?_
    rw [f_div hq (by omega)]
    refine w_iconst (v := 4) dX10_findBest_62 (by decide) ?_
    refine w_irem dX10_findBest_63 (by decide) ?_
    rw [rem4 (Nat.lt_of_le_of_lt (Nat.div_le_self _ _) hq)]
    refine w_istore dX10_findBest_64 (by decide) rfl ?_
    refine w_iload dX10_findBest_66 rfl ?_
    refine w_iload dX10_findBest_68 rfl ?_
    refine w_icmp_gt (tgt := 77) dX10_findBest_70 (by decide) (fun c_70 => ?_) (fun c_70 => ?_)
    · refine w_iconst (v := 0) dX10_findBest_77 (by decide) ?_
      refine w_istore dX10_findBest_78 (by decide) rfl ?_
      refine w_iload dX10_findBest_80 rfl ?_
      refine w_iload dX10_findBest_82 rfl ?_
      refine w_if_ne (tgt := 98) dX10_findBest_84 (by decide) (fun c_84 => ?_) (fun c_84 => ?_)
      · refine w_iconst (v := 1) dX10_findBest_98 (by decide) ?_
        refine w_iload dX10_findBest_99 rfl ?_
        refine w_isub dX10_findBest_101 ?_
        refine w_iadd dX10_findBest_102 ?_
        refine w_istore dX10_findBest_103 (by decide) rfl ?_
        refine w_iload dX10_findBest_105 rfl ?_
        refine w_iload dX10_findBest_107 rfl ?_
        refine w_iadd dX10_findBest_109 ?_
        refine w_istore dX10_findBest_110 (by decide) rfl ?_
        refine w_bipush (v := 10) dX10_findBest_112 (by decide) ?_
        refine w_iload dX10_findBest_114 rfl ?_
        refine w_imul dX10_findBest_116 ?_
        refine w_iload dX10_findBest_117 rfl ?_
        refine w_iadd dX10_findBest_119 ?_
        refine w_istore dX10_findBest_120 (by decide) rfl ?_
        refine w_iincv (c := (-1)) dX10_findBest_122 (by decide) rfl (by decide) rfl ?_
        refine w_goto (tgt := 44) dX10_findBest_125 (by decide) ?_
        rw [if_pos c_70] at hY
        refine w_iload dX10_findBest_44 rfl ?_
        refine w_if_lt (tgt := 128) dX10_findBest_46 (by decide) (fun c_46 => ?_) (fun c_46 => ?_)
        · exact K0 _ _ _ _ _ hY.symm
        · refine w_iload dX10_findBest_49 rfl ?_
          refine w_if_eq (tgt := 128) dX10_findBest_51 (by decide) (fun c_51 => ?_) (fun c_51 => absurd rfl c_51)
          exact K0 _ _ _ _ _ hY.symm
      · refine w_iload dX10_findBest_87 rfl ?_
        refine w_bipush (v := 9) dX10_findBest_89 (by decide) ?_
        refine w_icmp_ne (tgt := 98) dX10_findBest_91 (by decide) (fun c_91 => ?_) (fun c_91 => ?_)
        · refine w_iconst (v := 1) dX10_findBest_98 (by decide) ?_
          refine w_iload dX10_findBest_99 rfl ?_
          refine w_isub dX10_findBest_101 ?_
          refine w_iadd dX10_findBest_102 ?_
          refine w_istore dX10_findBest_103 (by decide) rfl ?_
          refine w_iload dX10_findBest_105 rfl ?_
          refine w_iload dX10_findBest_107 rfl ?_
          refine w_iadd dX10_findBest_109 ?_
          refine w_istore dX10_findBest_110 (by decide) rfl ?_
          refine w_bipush (v := 10) dX10_findBest_112 (by decide) ?_
          refine w_iload dX10_findBest_114 rfl ?_
          refine w_imul dX10_findBest_116 ?_
          refine w_iload dX10_findBest_117 rfl ?_
          refine w_iadd dX10_findBest_119 ?_
          refine w_istore dX10_findBest_120 (by decide) rfl ?_
          refine w_iincv (c := (-1)) dX10_findBest_122 (by decide) rfl (by decide) rfl ?_
          refine w_goto (tgt := 44) dX10_findBest_125 (by decide) ?_
          rw [if_pos c_70] at hY
          refine w_iload dX10_findBest_44 rfl ?_
          refine w_if_lt (tgt := 128) dX10_findBest_46 (by decide) (fun c_46 => ?_) (fun c_46 => ?_)
          · exact K0 _ _ _ _ _ hY.symm
          · refine w_iload dX10_findBest_49 rfl ?_
            refine w_if_eq (tgt := 128) dX10_findBest_51 (by decide) (fun c_51 => ?_) (fun c_51 => absurd rfl c_51)
            exact K0 _ _ _ _ _ hY.symm
        · refine w_iconst (v := 0) dX10_findBest_94 (by decide) ?_
          refine w_goto (tgt := 102) dX10_findBest_95 (by decide) ?_
          refine w_iadd dX10_findBest_102 ?_
          refine w_istore dX10_findBest_103 (by decide) rfl ?_
          refine w_iload dX10_findBest_105 rfl ?_
          refine w_iload dX10_findBest_107 rfl ?_
          refine w_iadd dX10_findBest_109 ?_
          refine w_istore dX10_findBest_110 (by decide) rfl ?_
          refine w_bipush (v := 10) dX10_findBest_112 (by decide) ?_
          refine w_iload dX10_findBest_114 rfl ?_
          refine w_imul dX10_findBest_116 ?_
          refine w_iload dX10_findBest_117 rfl ?_
          refine w_iadd dX10_findBest_119 ?_
          refine w_istore dX10_findBest_120 (by decide) rfl ?_
          refine w_iincv (c := (-1)) dX10_findBest_122 (by decide) rfl (by decide) rfl ?_
          refine w_goto (tgt := 44) dX10_findBest_125 (by decide) ?_
          rw [if_pos c_70] at hY
          refine w_iload dX10_findBest_44 rfl ?_
          refine w_if_lt (tgt := 128) dX10_findBest_46 (by decide) (fun c_46 => ?_) (fun c_46 => ?_)
          · exact K0 _ _ _ _ _ hY.symm
          · refine w_iload dX10_findBest_49 rfl ?_
            refine w_if_eq (tgt := 128) dX10_findBest_51 (by decide) (fun c_51 => ?_) (fun c_51 => absurd rfl c_51)
            exact K0 _ _ _ _ _ hY.symm
    · refine w_iconst (v := 1) dX10_findBest_73 (by decide) ?_
      refine w_goto (tgt := 78) dX10_findBest_74 (by decide) ?_
      refine w_istore dX10_findBest_78 (by decide) rfl ?_
      refine w_iload dX10_findBest_80 rfl ?_
      refine w_iload dX10_findBest_82 rfl ?_
      refine w_if_ne (tgt := 98) dX10_findBest_84 (by decide) (fun c_84 => ?_) (fun c_84 => ?_)
      · refine w_iconst (v := 1) dX10_findBest_98 (by decide) ?_
        refine w_iload dX10_findBest_99 rfl ?_
        refine w_isub dX10_findBest_101 ?_
        refine w_iadd dX10_findBest_102 ?_
        refine w_istore dX10_findBest_103 (by decide) rfl ?_
        refine w_iload dX10_findBest_105 rfl ?_
        refine w_iload dX10_findBest_107 rfl ?_
        refine w_iadd dX10_findBest_109 ?_
        refine w_istore dX10_findBest_110 (by decide) rfl ?_
        refine w_bipush (v := 10) dX10_findBest_112 (by decide) ?_
        refine w_iload dX10_findBest_114 rfl ?_
        refine w_imul dX10_findBest_116 ?_
        refine w_iload dX10_findBest_117 rfl ?_
        refine w_iadd dX10_findBest_119 ?_
        refine w_istore dX10_findBest_120 (by decide) rfl ?_
        refine w_iincv (c := (-1)) dX10_findBest_122 (by decide) rfl (by decide) rfl ?_
        refine w_goto (tgt := 44) dX10_findBest_125 (by decide) ?_
        rw [if_neg c_70, if_neg (fun q => c_84 q.1)] at hY
        rw [show nI k + (-1) = nI k - 1 from (Int32.sub_eq_add_neg _ _).symm]
        exact ih _ _ _ _ (by omega) hY
      · refine w_iload dX10_findBest_87 rfl ?_
        refine w_bipush (v := 9) dX10_findBest_89 (by decide) ?_
        refine w_icmp_ne (tgt := 98) dX10_findBest_91 (by decide) (fun c_91 => ?_) (fun c_91 => ?_)
        · refine w_iconst (v := 1) dX10_findBest_98 (by decide) ?_
          refine w_iload dX10_findBest_99 rfl ?_
          refine w_isub dX10_findBest_101 ?_
          refine w_iadd dX10_findBest_102 ?_
          refine w_istore dX10_findBest_103 (by decide) rfl ?_
          refine w_iload dX10_findBest_105 rfl ?_
          refine w_iload dX10_findBest_107 rfl ?_
          refine w_iadd dX10_findBest_109 ?_
          refine w_istore dX10_findBest_110 (by decide) rfl ?_
          refine w_bipush (v := 10) dX10_findBest_112 (by decide) ?_
          refine w_iload dX10_findBest_114 rfl ?_
          refine w_imul dX10_findBest_116 ?_
          refine w_iload dX10_findBest_117 rfl ?_
          refine w_iadd dX10_findBest_119 ?_
          refine w_istore dX10_findBest_120 (by decide) rfl ?_
          refine w_iincv (c := (-1)) dX10_findBest_122 (by decide) rfl (by decide) rfl ?_
          refine w_goto (tgt := 44) dX10_findBest_125 (by decide) ?_
          rw [if_neg c_70, if_neg (fun q => c_91 q.2)] at hY
          rw [show nI k + (-1) = nI k - 1 from (Int32.sub_eq_add_neg _ _).symm]
          exact ih _ _ _ _ (by omega) hY
        · refine w_iconst (v := 0) dX10_findBest_94 (by decide) ?_
          refine w_goto (tgt := 102) dX10_findBest_95 (by decide) ?_
          refine w_iadd dX10_findBest_102 ?_
          refine w_istore dX10_findBest_103 (by decide) rfl ?_
          refine w_iload dX10_findBest_105 rfl ?_
          refine w_iload dX10_findBest_107 rfl ?_
          refine w_iadd dX10_findBest_109 ?_
          refine w_istore dX10_findBest_110 (by decide) rfl ?_
          refine w_bipush (v := 10) dX10_findBest_112 (by decide) ?_
          refine w_iload dX10_findBest_114 rfl ?_
          refine w_imul dX10_findBest_116 ?_
          refine w_iload dX10_findBest_117 rfl ?_
          refine w_iadd dX10_findBest_119 ?_
          refine w_istore dX10_findBest_120 (by decide) rfl ?_
          refine w_iincv (c := (-1)) dX10_findBest_122 (by decide) rfl (by decide) rfl ?_
          refine w_goto (tgt := 44) dX10_findBest_125 (by decide) ?_
          rw [if_neg c_70, if_pos ⟨c_84, c_91⟩] at hY
          rw [show nI k + (-1) = nI k - 1 from (Int32.sub_eq_add_neg _ _).symm]
          exact ih _ _ _ _ (by omega) hY
set_option maxHeartbeats 4000000 in
set_option maxRecDepth 100000 in
theorem l_fb {I : Mem} {J : Lng} {n t0 : Nat} {own : Bool} {t : Int32} {Z : Int32 × Int32} (hn : n < 5) (h3 : I 92 3 = t) : ∀ (r q : Nat) (x : Int32 × Int32) (x4 x5 x6 x7 x8 x9 : Option Value), 4 ^ n - q = r → q ≤ 4 ^ n → mba own t n r q x = Z → q_w yX10_findBest.cls yX10_findBest.name cX10_findBest 10 .return_ 1 (fun st I2 J1 => st = [] ∧ I2 = mbI I Z ∧ J1 = J) 13 [some (.ref 89), some (.int (nI n)), some (.int (zB own)), some (.int (nI q)), x4, x5, x6, x7, x8, x9] [] (mbI I x) (J) := by
  have hf := f_lt n hn
  intro r
  induction r with
  | zero =>
    intro q x x4 x5 x6 x7 x8 x9 hr hq hZ
    obtain rfl : q = 4 ^ n := by omega
    have hZ2 : x = Z := hZ
    have hpw := c_X10_power (I := mbI I x) (J := J) (b := 4) (e := n) (by omega)
    refine w_iload_n dX10_findBest_13 rfl ?_
    refine w_iconst (v := 4) dX10_findBest_14 (by decide) ?_
    refine w_iload_n dX10_findBest_15 rfl ?_
    refine w_callSi dX10_findBest_16 k_X10_136 (hpw) rfl rfl rfl (Nat.le_of_ble_eq_true rfl) (by first | decide | omega) ?_
    refine w_icmp_ge (tgt := 177) dX10_findBest_19 (by decide) (fun c_19 => ?_) (fun c_19 => absurd (Int32.le_refl _) c_19)
    exact w_ret dX10_findBest_177 ⟨rfl, by rw [hZ2], rfl⟩
  | succ r ih =>
    intro q x x4 x5 x6 x7 x8 x9 hr hq hZ
    have hpw := c_X10_power (I := mbI I x) (J := J) (b := 4) (e := n) (by omega)
    refine w_iload_n dX10_findBest_13 rfl ?_
    refine w_iconst (v := 4) dX10_findBest_14 (by decide) ?_
    refine w_iload_n dX10_findBest_15 rfl ?_
    refine w_callSi dX10_findBest_16 k_X10_136 (hpw) rfl rfl rfl (Nat.le_of_ble_eq_true rfl) (by first | decide | omega) ?_
    refine w_icmp_ge (tgt := 177) dX10_findBest_19 (by decide) (fun c_19 => absurd c_19 (nI_ge (by omega) (by omega))) (fun c_19 => ?_)
    refine w_aload_n dX10_findBest_22 rfl ?_
    refine w_getR dX10_findBest_23 f_X10_16 (by first | assumption | rfl) rfl rfl ?_
    refine w_iconst (v := 3) dX10_findBest_26 (by decide) ?_
    refine w_iald (j := 3) dX10_findBest_27 (by first | assumption | rfl) rfl rfl (by decide) (by decide) ?_
    rw [mbI_o (by decide), h3]
    refine w_istore dX10_findBest_28 (by decide) rfl ?_
    refine w_iconst (v := 0) dX10_findBest_30 (by decide) ?_
    refine w_istore dX10_findBest_31 (by decide) rfl ?_
    refine w_iconst (v := 1) dX10_findBest_33 (by decide) ?_
    refine w_istore dX10_findBest_34 (by decide) rfl ?_
    refine w_iconst (v := 1) dX10_findBest_36 (by decide) ?_
    refine w_istore dX10_findBest_37 (by decide) rfl ?_
    refine w_iload_n dX10_findBest_39 rfl ?_
    refine w_iconst (v := 1) dX10_findBest_40 (by decide) ?_
    refine w_isub dX10_findBest_41 ?_
    refine w_istore dX10_findBest_42 (by decide) rfl ?_
    have hk := fun (Y : Option (Int32 × Int32 × Int32)) (hYd : mbk q n t 0 1 = Y) K K0 => l_fb_k (I := I) (I1 := mbI I x) (J := J) (q := q) (own := own) (Z := Z) (Y := Y) hn (by omega) K K0 n t 0 1 x9 (Nat.le_refl _) hYd
    refine hk _ rfl (fun l s f v8 x9 hY => ?_) (fun l s f v8 x9 hY => ?_)
    · refine w_iload dX10_findBest_128 rfl ?_
      refine w_iload_n dX10_findBest_130 rfl ?_
      refine w_if_eq (tgt := 141) dX10_findBest_131 (by decide) (fun c_131 => ?_) (fun c_131 => ?_)
      · refine w_iconst (v := 0) dX10_findBest_141 (by decide) ?_
        refine w_iadd dX10_findBest_142 ?_
        refine w_istore dX10_findBest_143 (by decide) rfl ?_
        refine w_iload dX10_findBest_145 rfl ?_
        refine w_if_eq (tgt := 171) dX10_findBest_147 (by decide) (fun c_147 => absurd c_147 (by decide)) (fun c_147 => ?_)
        refine w_iload dX10_findBest_150 rfl ?_
        refine w_aload_n dX10_findBest_152 rfl ?_
        refine w_getI dX10_findBest_153 f_X10_130 (by first | assumption | rfl) rfl ?_
        refine w_icmp_le (tgt := 171) dX10_findBest_156 (by decide) (fun c_156 => ?_) (fun c_156 => ?_)
        · refine w_iincv (c := 1) dX10_findBest_171 (by decide) rfl (by decide) rfl ?_
          refine w_goto (tgt := 13) dX10_findBest_174 (by decide) ?_
          have ho : own = false := by exact zB_eq0.mp c_131
          subst ho
          unfold mba mbs at hZ
          rw [hY] at hZ
          dsimp only [cond_true, cond_false] at hZ
          rw [mbI_18] at c_156
          rw [if_neg (i_nl c_156)] at hZ
          rw [nI_1]
          exact ih (q + 1) x _ _ _ _ _ _ (by omega) (by omega) hZ
        · refine w_aload_n dX10_findBest_159 rfl ?_
          refine w_iload dX10_findBest_160 rfl ?_
          refine w_putI dX10_findBest_162 f_X10_130 (by first | assumption | rfl) rfl ?_
          refine w_aload_n dX10_findBest_165 rfl ?_
          refine w_iload dX10_findBest_166 rfl ?_
          refine w_putI dX10_findBest_168 f_X10_133 (by first | assumption | rfl) rfl ?_
          refine w_iincv (c := 1) dX10_findBest_171 (by decide) rfl (by decide) rfl ?_
          refine w_goto (tgt := 13) dX10_findBest_174 (by decide) ?_
          have ho : own = false := by exact zB_eq0.mp c_131
          subst ho
          unfold mba mbs at hZ
          rw [hY] at hZ
          dsimp only [cond_true, cond_false] at hZ
          rw [mbI_18] at c_156
          rw [if_pos (i_lt c_156)] at hZ
          rw [nI_1, mbI_s]
          exact ih (q + 1) _ _ _ _ _ _ _ (by omega) (by omega) hZ
      · refine w_iconst (v := 2) dX10_findBest_134 (by decide) ?_
        refine w_iload dX10_findBest_135 rfl ?_
        refine w_imul dX10_findBest_137 ?_
        refine w_goto (tgt := 142) dX10_findBest_138 (by decide) ?_
        refine w_iadd dX10_findBest_142 ?_
        refine w_istore dX10_findBest_143 (by decide) rfl ?_
        refine w_iload dX10_findBest_145 rfl ?_
        refine w_if_eq (tgt := 171) dX10_findBest_147 (by decide) (fun c_147 => absurd c_147 (by decide)) (fun c_147 => ?_)
        refine w_iload dX10_findBest_150 rfl ?_
        refine w_aload_n dX10_findBest_152 rfl ?_
        refine w_getI dX10_findBest_153 f_X10_130 (by first | assumption | rfl) rfl ?_
        refine w_icmp_le (tgt := 171) dX10_findBest_156 (by decide) (fun c_156 => ?_) (fun c_156 => ?_)
        · refine w_iincv (c := 1) dX10_findBest_171 (by decide) rfl (by decide) rfl ?_
          refine w_goto (tgt := 13) dX10_findBest_174 (by decide) ?_
          have ho : own = true := by simpa [zB_eq0] using c_131
          subst ho
          unfold mba mbs at hZ
          rw [hY] at hZ
          dsimp only [cond_true, cond_false] at hZ
          rw [mbI_18] at c_156
          rw [if_neg (i_nl c_156)] at hZ
          rw [nI_1]
          exact ih (q + 1) x _ _ _ _ _ _ (by omega) (by omega) hZ
        · refine w_aload_n dX10_findBest_159 rfl ?_
          refine w_iload dX10_findBest_160 rfl ?_
          refine w_putI dX10_findBest_162 f_X10_130 (by first | assumption | rfl) rfl ?_
          refine w_aload_n dX10_findBest_165 rfl ?_
          refine w_iload dX10_findBest_166 rfl ?_
          refine w_putI dX10_findBest_168 f_X10_133 (by first | assumption | rfl) rfl ?_
          refine w_iincv (c := 1) dX10_findBest_171 (by decide) rfl (by decide) rfl ?_
          refine w_goto (tgt := 13) dX10_findBest_174 (by decide) ?_
          have ho : own = true := by simpa [zB_eq0] using c_131
          subst ho
          unfold mba mbs at hZ
          rw [hY] at hZ
          dsimp only [cond_true, cond_false] at hZ
          rw [mbI_18] at c_156
          rw [if_pos (i_lt c_156)] at hZ
          rw [nI_1, mbI_s]
          exact ih (q + 1) _ _ _ _ _ _ _ (by omega) (by omega) hZ
    · refine w_iload dX10_findBest_128 rfl ?_
      refine w_iload_n dX10_findBest_130 rfl ?_
      refine w_if_eq (tgt := 141) dX10_findBest_131 (by decide) (fun c_131 => ?_) (fun c_131 => ?_)
      · refine w_iconst (v := 0) dX10_findBest_141 (by decide) ?_
        refine w_iadd dX10_findBest_142 ?_
        refine w_istore dX10_findBest_143 (by decide) rfl ?_
        refine w_iload dX10_findBest_145 rfl ?_
        refine w_if_eq (tgt := 171) dX10_findBest_147 (by decide) (fun c_147 => ?_) (fun c_147 => absurd rfl c_147)
        refine w_iincv (c := 1) dX10_findBest_171 (by decide) rfl (by decide) rfl ?_
        refine w_goto (tgt := 13) dX10_findBest_174 (by decide) ?_
        unfold mba mbs at hZ
        rw [hY] at hZ
        rw [nI_1]
        exact ih (q + 1) x _ _ _ _ _ _ (by omega) (by omega) hZ
      · refine w_iconst (v := 2) dX10_findBest_134 (by decide) ?_
        refine w_iload dX10_findBest_135 rfl ?_
        refine w_imul dX10_findBest_137 ?_
        refine w_goto (tgt := 142) dX10_findBest_138 (by decide) ?_
        refine w_iadd dX10_findBest_142 ?_
        refine w_istore dX10_findBest_143 (by decide) rfl ?_
        refine w_iload dX10_findBest_145 rfl ?_
        refine w_if_eq (tgt := 171) dX10_findBest_147 (by decide) (fun c_147 => ?_) (fun c_147 => absurd rfl c_147)
        refine w_iincv (c := 1) dX10_findBest_171 (by decide) rfl (by decide) rfl ?_
        refine w_goto (tgt := 13) dX10_findBest_174 (by decide) ?_
        unfold mba mbs at hZ
        rw [hY] at hZ
        rw [nI_1]
        exact ih (q + 1) x _ _ _ _ _ _ (by omega) (by omega) hZ
set_option maxHeartbeats 4000000 in
set_option maxRecDepth 100000 in
theorem c_X10_findBest {I : Mem} {J : Lng} {k : Nat} {own : Bool} {t : Int32} (hk : k < 5) (h3 : I 92 3 = t) : q_E yX10_findBest cX10_findBest 10 none 1 [.ref 89, .int (nI k), .int (zB own)] I J none (mbI I (mba own t k (4 ^ k) 0 (-9, 0))) (J) := by
  refine q_Ev me_X10_findBest rfl (Nat.le_of_ble_eq_true rfl) ?_
  show q_w _ _ _ _ _ _ _ 0 [some (.ref 89), some (.int (nI k)), some (.int (zB own)), none, none, none, none, none, none, none] [] I J
  refine w_aload_n dX10_findBest_0 rfl ?_
  refine w_bipush (v := (-9)) dX10_findBest_1 (by decide) ?_
  refine w_putI dX10_findBest_3 f_X10_130 (by first | assumption | rfl) rfl ?_
  refine w_aload_n dX10_findBest_6 rfl ?_
  refine w_iconst (v := 0) dX10_findBest_7 (by decide) ?_
  refine w_putI dX10_findBest_8 f_X10_133 (by first | assumption | rfl) rfl ?_
  refine w_iconst (v := 0) dX10_findBest_11 (by decide) ?_
  refine w_istore_n dX10_findBest_12 (by decide) rfl ?_
  exact l_fb (I := I) (t0 := 0) hk h3 (4 ^ k) 0 (-9, 0) _ _ _ _ _ _ rfl (Nat.zero_le _) rfl
set_option maxHeartbeats 4000000 in
set_option maxRecDepth 100000 in
theorem c_X10_best_b {I : Mem} {J : Lng} {x : Int32} {own row : Bool} (hx : pin1 x 4 = none) : q_E yX10_best cX10_best 4 (some .int) 2 [.ref 89, .int x, .int (zB own), .int (zB row)] I J (some (.int (-2))) (upI I 89 0 0) (J) := by
  have h1 := c_X10_in (I := upI I 89 0 0) (J := J) (v := x.toInt64) (a := 1) (b := 4)
  rw [zin_pin1 (N := 4) (by decide), hx] at h1
  refine q_Ei me_X10_best rfl (Nat.le_of_ble_eq_true rfl) ?_
  show q_w _ _ _ _ _ _ _ 0 [some (.ref 89), some (.int x), some (.int (zB own)), some (.int (zB row))] [] I J
  refine w_aload_n dX10_best_0 rfl ?_
  refine w_iconst (v := 0) dX10_best_1 (by decide) ?_
  refine w_putI dX10_best_2 f_X10_41 (by first | assumption | rfl) rfl ?_
  refine w_iload_n dX10_best_5 rfl ?_
  refine w_i2l dX10_best_6 ?_
  refine w_lconst (v := 1) dX10_best_7 (by decide) ?_
  refine w_ldc2 dX10_best_8 c_X10_139 ?_
  refine w_callSi dX10_best_11 k_X10_45 (h1) rfl rfl rfl (Nat.le_of_ble_eq_true rfl) (by first | decide | omega) ?_
  refine w_if_ne (tgt := 20) dX10_best_14 (by decide) (fun c_14 => absurd c_14 (fun q => q rfl)) (fun c_14 => ?_)
  refine w_bipush (v := (-2)) dX10_best_17 (by decide) ?_
  exact w_ret dX10_best_19 ⟨rfl, rfl, rfl⟩
set_option maxHeartbeats 4000000 in
set_option maxRecDepth 100000 in
theorem c_X10_best_l {I : Mem} {J : Lng} {x : Int32} {own row : Bool} {k : Nat} (hx : pin1 x 4 = some k) (hh : I 92 1 = -9) : q_E yX10_best cX10_best 4 (some .int) 2 [.ref 89, .int x, .int (zB own), .int (zB row)] I J (some (.int (-3))) (upI I 89 0 0) (J) := by
  have h1 := c_X10_in (I := upI I 89 0 0) (J := J) (v := x.toInt64) (a := 1) (b := 4)
  rw [zin_pin1 (N := 4) (by decide), hx] at h1
  refine q_Ei me_X10_best rfl (Nat.le_of_ble_eq_true rfl) ?_
  show q_w _ _ _ _ _ _ _ 0 [some (.ref 89), some (.int x), some (.int (zB own)), some (.int (zB row))] [] I J
  refine w_aload_n dX10_best_0 rfl ?_
  refine w_iconst (v := 0) dX10_best_1 (by decide) ?_
  refine w_putI dX10_best_2 f_X10_41 (by first | assumption | rfl) rfl ?_
  refine w_iload_n dX10_best_5 rfl ?_
  refine w_i2l dX10_best_6 ?_
  refine w_lconst (v := 1) dX10_best_7 (by decide) ?_
  refine w_ldc2 dX10_best_8 c_X10_139 ?_
  refine w_callSi dX10_best_11 k_X10_45 (h1) rfl rfl rfl (Nat.le_of_ble_eq_true rfl) (by first | decide | omega) ?_
  refine w_if_ne (tgt := 20) dX10_best_14 (by decide) (fun c_14 => ?_) (fun c_14 => absurd c_14 (show ¬ zB true = 0 by decide))
  refine w_aload_n dX10_best_20 rfl ?_
  refine w_getR dX10_best_21 f_X10_16 (by first | assumption | rfl) rfl rfl ?_
  refine w_iconst (v := 1) dX10_best_24 (by decide) ?_
  refine w_iald (j := 1) dX10_best_25 (by first | assumption | rfl) rfl rfl (by decide) (by decide) ?_
  rw [t0_92]
  refine w_bipush (v := (-9)) dX10_best_26 (by decide) ?_
  refine w_icmp_ne (tgt := 34) dX10_best_28 (by decide) (fun c_28 => absurd c_28 (fun q => q hh)) (fun c_28 => ?_)
  refine w_bipush (v := (-3)) dX10_best_31 (by decide) ?_
  exact w_ret dX10_best_33 ⟨rfl, rfl, rfl⟩
theorem best_eq : ∀ n, n < 5 → ∀ t, t < 10 → ∀ own : Bool, 0 < n → mba own (nI t) n (4 ^ n) 0 (-9, 0) = (nI (bm own n t), nI (brow own n 1 t)) := by decide +kernel
theorem mbI_19 {I : Mem} {x : Int32 × Int32} : mbI I x 89 19 = x.2 := by unfold mbI; rw [upI_tt]
set_option maxHeartbeats 4000000 in
set_option maxRecDepth 100000 in
theorem c_X10_best {I : Mem} {J : Lng} {x : Int32} {own row : Bool} {k t : Nat} (hx : pin1 x 4 = some k) (hh : ¬ I 92 1 = -9) (ht : t < 10) (h3 : I 92 3 = nI t) : q_F yX10_best cX10_best 4 (some .int) 2 [.ref 89, .int x, .int (zB own), .int (zB row)] I J (fun r I1 J1 => r = some (.int (nI (cond row (brow own k 1 t) (bm own k t)))) ∧ J1 = J ∧ Mr MSS I I1) := by
  have h1 := c_X10_in (I := upI I 89 0 0) (J := J) (v := x.toInt64) (a := 1) (b := 4)
  rw [zin_pin1 (N := 4) (by decide), hx] at h1
  obtain ⟨hk1, hk4, rfl⟩ := pin1_some (by decide) hx
  have hfb := c_X10_findBest (I := upI I 89 0 0) (J := J) (k := k) (own := own) (t := nI t) (by omega) (by rw [t0_92]; exact h3)
  rw [best_eq k (by omega) t ht own (by omega)] at hfb
  have hMM : Mr MSS I (mbI (upI I 89 0 0) (nI (bm own k t), nI (brow own k 1 t))) := ((Mr.rf.f (by decide)).f (by decide)).f (by decide)
  refine q_Fi me_X10_best rfl (Nat.le_of_ble_eq_true rfl) ?_
  show q_w _ _ _ _ _ _ _ 0 [some (.ref 89), some (.int (nI k)), some (.int (zB own)), some (.int (zB row))] [] I J
  refine w_aload_n dX10_best_0 rfl ?_
  refine w_iconst (v := 0) dX10_best_1 (by decide) ?_
  refine w_putI dX10_best_2 f_X10_41 (by first | assumption | rfl) rfl ?_
  refine w_iload_n dX10_best_5 rfl ?_
  refine w_i2l dX10_best_6 ?_
  refine w_lconst (v := 1) dX10_best_7 (by decide) ?_
  refine w_ldc2 dX10_best_8 c_X10_139 ?_
  refine w_callSi dX10_best_11 k_X10_45 (h1) rfl rfl rfl (Nat.le_of_ble_eq_true rfl) (by first | decide | omega) ?_
  refine w_if_ne (tgt := 20) dX10_best_14 (by decide) (fun c_14 => ?_) (fun c_14 => absurd c_14 (show ¬ zB true = 0 by decide))
  refine w_aload_n dX10_best_20 rfl ?_
  refine w_getR dX10_best_21 f_X10_16 (by first | assumption | rfl) rfl rfl ?_
  refine w_iconst (v := 1) dX10_best_24 (by decide) ?_
  refine w_iald (j := 1) dX10_best_25 (by first | assumption | rfl) rfl rfl (by decide) (by decide) ?_
  rw [t0_92]
  refine w_bipush (v := (-9)) dX10_best_26 (by decide) ?_
  refine w_icmp_ne (tgt := 34) dX10_best_28 (by decide) (fun c_28 => ?_) (fun c_28 => absurd c_28 hh)
  refine w_aload_n dX10_best_34 rfl ?_
  refine w_iload_n dX10_best_35 rfl ?_
  refine w_iload_n dX10_best_36 rfl ?_
  refine w_callVv dX10_best_37 k_X10_141 (by first | assumption | rfl) rfl (hfb) rfl rfl rfl (Nat.le_of_ble_eq_true rfl) (by first | decide | omega) ?_
  refine w_iload_n dX10_best_40 rfl ?_
  refine w_if_eq (tgt := 51) dX10_best_41 (by decide) (fun c_41 => ?_) (fun c_41 => ?_)
  · refine w_aload_n dX10_best_51 rfl ?_
    refine w_getI dX10_best_52 f_X10_130 (by first | assumption | rfl) rfl ?_
    refine w_ret dX10_best_55 ⟨_, rfl, ?_, rfl, hMM⟩
    rw [mbI_18, zB_eq0.mp c_41]; rfl
  · refine w_aload_n dX10_best_44 rfl ?_
    refine w_getI dX10_best_45 f_X10_133 (by first | assumption | rfl) rfl ?_
    refine w_goto (tgt := 55) dX10_best_48 (by decide) ?_
    refine w_ret dX10_best_55 ⟨_, rfl, ?_, rfl, hMM⟩
    rw [mbI_19, show row = true by simpa [zB_eq0] using c_41]; rfl
