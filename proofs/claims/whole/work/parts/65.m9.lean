def zgo (a o w : Int32) (h : Bool) : Int32 := if o < a then 0 else cond h o (w - o)
set_option maxHeartbeats 4000000 in
set_option maxRecDepth 100000 in
theorem c_X10_gainOf {I : Mem} {J : Lng} {a o w : Int32} {h : Bool} : q_E yX10_gainOf cX10_gainOf 4 (some .int) 0 [.int a, .int o, .int w, .int (zB h)] I J (some (.int (zgo a o w h))) (I) (J) := by
  refine q_Ei me_X10_gainOf rfl (Nat.le_of_ble_eq_true rfl) ?_
  show q_w _ _ _ _ _ _ _ 0 [some (.int a), some (.int o), some (.int w), some (.int (zB h))] [] I J
  refine w_iload_n dX10_gainOf_0 rfl ?_
  refine w_iload_n dX10_gainOf_1 rfl ?_
  refine w_icmp_ge (tgt := 9) dX10_gainOf_2 (by decide) (fun c_2 => ?_) (fun c_2 => ?_)
  · refine w_iload_n dX10_gainOf_9 rfl ?_
    refine w_if_eq (tgt := 17) dX10_gainOf_10 (by decide) (fun c_10 => ?_) (fun c_10 => ?_)
    · refine w_iload_n dX10_gainOf_17 rfl ?_
      refine w_iload_n dX10_gainOf_18 rfl ?_
      refine w_isub dX10_gainOf_19 ?_
      exact w_ret dX10_gainOf_20 ⟨by unfold zgo; rw [if_neg (Int32.not_lt.mpr c_2), zB_eq0.mp c_10]; rfl, rfl, rfl⟩
    · refine w_iload_n dX10_gainOf_13 rfl ?_
      refine w_goto (tgt := 20) dX10_gainOf_14 (by decide) ?_
      exact w_ret dX10_gainOf_20 ⟨by unfold zgo; rw [if_neg (Int32.not_lt.mpr c_2), show h = true by simpa [zB_eq0] using c_10]; rfl, rfl, rfl⟩
  · refine w_iconst (v := 0) dX10_gainOf_5 (by decide) ?_
    refine w_goto (tgt := 20) dX10_gainOf_6 (by decide) ?_
    exact w_ret dX10_gainOf_20 ⟨by unfold zgo; rw [if_pos (Int32.not_le.mp c_2)], rfl, rfl⟩
set_option maxHeartbeats 4000000 in
set_option maxRecDepth 100000 in
theorem l_X10_divisor {I : Mem} {J : Lng} {g : Nat} {a b : Int32} : ∀ (r p q : Nat) (x4 : Option Value), q ≤ r → p < 2 ^ 31 → q < 2 ^ 31 → Nat.gcd p q = g → q_w yX10_divisor.cls yX10_divisor.name cX10_divisor 5 .ireturn 0 (fun st I1 J1 => st = [.int (nI g)] ∧ I1 = I ∧ J1 = J) 13 [some (.int (a)), some (.int (b)), some (.int (nI p)), some (.int (nI q)), x4] [] (I) (J) := by
  intro r
  induction r with
  | zero =>
    intro p q x4 hr hp hq hg
    obtain rfl : q = 0 := by omega
    rw [Nat.gcd_zero_right] at hg
    subst hg
    refine w_iload_n dX10_divisor_13 rfl ?_
    refine w_if_eq (tgt := 30) dX10_divisor_14 (by decide) (fun c_14 => ?_) (fun c_14 => absurd (rfl : nI 0 = (0 : Int32)) c_14)
    refine w_iload_n dX10_divisor_30 rfl ?_
    exact w_ret dX10_divisor_31 ⟨rfl, rfl, rfl⟩
  | succ r ih =>
    intro p q x4 hr hp hq hg
    by_cases hz : q = 0
    · subst hz
      rw [Nat.gcd_zero_right] at hg
      subst hg
      refine w_iload_n dX10_divisor_13 rfl ?_
      refine w_if_eq (tgt := 30) dX10_divisor_14 (by decide) (fun c_14 => ?_) (fun c_14 => absurd (rfl : nI 0 = (0 : Int32)) c_14)
      refine w_iload_n dX10_divisor_30 rfl ?_
      exact w_ret dX10_divisor_31 ⟨rfl, rfl, rfl⟩
    · have hne : ¬ nI q = 0 := fun e => hz (nI_inj (b := 0) (by omega) (by decide) e)
      have hlt : p % q < q := Nat.mod_lt _ (by omega)
      have hg2 : Nat.gcd q (p % q) = g := by rw [← hg, Nat.gcd_comm p q, Nat.gcd_rec q p, Nat.gcd_comm]
      refine w_iload_n dX10_divisor_13 rfl ?_
      refine w_if_eq (tgt := 30) dX10_divisor_14 (by decide) (fun c_14 => absurd c_14 hne) (fun c_14 => ?_)
      refine w_iload_n dX10_divisor_17 rfl ?_
      refine w_iload_n dX10_divisor_18 rfl ?_
      refine w_irem dX10_divisor_19 hne ?_
      rw [pk_rem hp (by omega) hq]
      refine w_istore dX10_divisor_20 (by decide) rfl ?_
      refine w_iload_n dX10_divisor_22 rfl ?_
      refine w_istore_n dX10_divisor_23 (by decide) rfl ?_
      refine w_iload dX10_divisor_24 rfl ?_
      refine w_istore_n dX10_divisor_26 (by decide) rfl ?_
      refine w_goto (tgt := 13) dX10_divisor_27 (by decide) ?_
      exact ih q (p % q) _ (by omega) hq (by omega) hg2
set_option maxHeartbeats 4000000 in
set_option maxRecDepth 100000 in
theorem c_X10_divisor {I : Mem} {J : Lng} {a b : Nat} (ha : a < 2 ^ 31) (hb : b < 2 ^ 31) : q_E yX10_divisor cX10_divisor 5 (some .int) 0 [.int (nI a), .int (nI b)] I J (some (.int (nI (Nat.gcd a b)))) (I) (J) := by
  refine q_Ei me_X10_divisor rfl (Nat.le_of_ble_eq_true rfl) ?_
  show q_w _ _ _ _ _ _ _ 0 [some (.int (nI a)), some (.int (nI b)), none, none, none] [] I J
  refine w_iload_n dX10_divisor_0 rfl ?_
  refine w_if_ge (tgt := 9) dX10_divisor_1 (by decide) (fun c_1 => ?_) (fun c_1 => absurd (nI_pos' ha) c_1)
  refine w_iload_n dX10_divisor_9 rfl ?_
  refine w_istore_n dX10_divisor_10 (by decide) rfl ?_
  refine w_iload_n dX10_divisor_11 rfl ?_
  refine w_istore_n dX10_divisor_12 (by decide) rfl ?_
  exact l_X10_divisor b a b _ (Nat.le_refl _) ha hb rfl
def mfr (a b : Nat) (u : Bool) : Nat := cond u (a / Nat.gcd a b) (b / Nat.gcd a b)
set_option maxHeartbeats 4000000 in
set_option maxRecDepth 100000 in
theorem c_X10_fraction {I : Mem} {J : Lng} {a b : Nat} {u : Bool} (ha : a < 2 ^ 31) (hb : b < 2 ^ 31) (h0 : 0 < b) : q_E yX10_fraction cX10_fraction 4 (some .int) 1 [.int (nI a), .int (nI b), .int (zB u)] I J (some (.int (nI (mfr a b u)))) (I) (J) := by
  have hg0 : 0 < Nat.gcd a b := Nat.gcd_pos_of_pos_right a h0
  have hgl : Nat.gcd a b ≤ b := Nat.gcd_le_right a h0
  have hne : ¬ nI (Nat.gcd a b) = 0 := fun e => absurd (nI_inj (b := 0) (by omega) (by decide) e) (by omega)
  refine q_Ei me_X10_fraction rfl (Nat.le_of_ble_eq_true rfl) ?_
  show q_w _ _ _ _ _ _ _ 0 [some (.int (nI a)), some (.int (nI b)), some (.int (zB u)), none] [] I J
  refine w_iload_n dX10_fraction_0 rfl ?_
  refine w_iload_n dX10_fraction_1 rfl ?_
  refine w_callSi dX10_fraction_2 k_X10_162 (c_X10_divisor ha hb) rfl rfl rfl (Nat.le_of_ble_eq_true rfl) (by first | decide | omega) ?_
  refine w_istore_n dX10_fraction_5 (by decide) rfl ?_
  refine w_iload_n dX10_fraction_6 rfl ?_
  refine w_if_eq (tgt := 16) dX10_fraction_7 (by decide) (fun c_7 => ?_) (fun c_7 => ?_)
  · refine w_iload_n dX10_fraction_16 rfl ?_
    refine w_iload_n dX10_fraction_17 rfl ?_
    refine w_idiv dX10_fraction_18 hne ?_
    exact w_ret dX10_fraction_19 ⟨by rw [zB_eq0.mp c_7, pk_div hb hg0 (by omega)]; rfl, rfl, rfl⟩
  · refine w_iload_n dX10_fraction_10 rfl ?_
    refine w_iload_n dX10_fraction_11 rfl ?_
    refine w_idiv dX10_fraction_12 hne ?_
    refine w_goto (tgt := 19) dX10_fraction_13 (by decide) ?_
    exact w_ret dX10_fraction_19 ⟨by rw [show u = true by simpa [zB_eq0] using c_7, pk_div ha hg0 (by omega)]; rfl, rfl, rfl⟩
