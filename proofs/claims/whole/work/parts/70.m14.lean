/-- who dies, from the greatest figure on -/
def dq : Nat → Nat → List Nat
  | 0, _ => []
  | r + 1, d => (d / 10 ^ r % 10 - 1) :: dq r d
theorem dq_s : ∀ r d, dq r (d / 10) ++ [d % 10 - 1] = dq (r + 1) d
  | 0, d => by
    show [d % 10 - 1] = [d / 10 ^ 0 % 10 - 1]
    rw [Nat.pow_zero, Nat.div_one]
  | r + 1, d => by
    show (d / 10 / 10 ^ r % 10 - 1) :: (dq r (d / 10) ++ [d % 10 - 1]) = (d / 10 ^ (r + 1) % 10 - 1) :: dq (r + 1) d
    rw [dq_s r d, Nat.div_div_eq_div_mul, Nat.pow_succ, Nat.mul_comm 10]
theorem dpl_dq : ∀ r d, dpl r d = dq r d
  | 0, d => rfl
  | r + 1, d => by
    show dpl r (d / 10) ++ [d % 10 - 1] = _
    rw [dpl_dq r (d / 10), dq_s]
theorem dok_pos {m : Nat} : ∀ (r rest s : Nat), dok m r rest s = true → ∀ i, i < r → 0 < rest / 10 ^ i % 10
  | 0, rest, s, h, i, hi => by omega
  | r + 1, rest, s, h, i, hi => by
    unfold dok at h
    split at h
    · rename_i hh
      have hh2 : (0 < rest % 10 ∧ m.testBit (rest % 10 - 1) = true) ∧ s.testBit (rest % 10 - 1) = false := by simpa [dal] using hh
      cases i with
      | zero => rw [Nat.pow_zero, Nat.div_one]; exact hh2.1.1
      | succ i =>
        have := dok_pos r _ _ h i (by omega)
        rw [Nat.div_div_eq_div_mul, Nat.mul_comm, ← Nat.pow_succ] at this
        exact this
    · cases h
set_option maxHeartbeats 4000000 in
set_option maxRecDepth 100000 in
theorem c_X10_ties_b {I : Mem} {J : Lng} {x d p : Int32} (hx : pin1 x 4 = none) : q_E yX10_ties cX10_ties 7 (some .int) 5 [.ref 89, .int x, .int d, .int p] I J (some (.int (-2))) (upI I 89 0 0) (J) := by
  have hnd := c_X10_noDeaths_b (I := upI I 89 0 0) (J := J) (d := d) hx
  refine q_Ei me_X10_ties rfl (Nat.le_of_ble_eq_true rfl) ?_
  show q_w _ _ _ _ _ _ _ 0 [some (.ref 89), some (.int x), some (.int d), some (.int p), none, none, none] [] I J
  refine w_aload_n dX10_ties_0 rfl ?_
  refine w_iconst (v := 0) dX10_ties_1 (by decide) ?_
  refine w_putI dX10_ties_2 f_X10_41 (by first | assumption | rfl) rfl ?_
  refine w_aload_n dX10_ties_5 rfl ?_
  refine w_iload_n dX10_ties_6 rfl ?_
  refine w_iload_n dX10_ties_7 rfl ?_
  refine w_callVi dX10_ties_8 k_X10_145 (by first | assumption | rfl) rfl (hnd) rfl rfl rfl (Nat.le_of_ble_eq_true rfl) (by first | decide | omega) ?_
  refine w_if_eq (tgt := 17) dX10_ties_11 (by decide) (fun c_11 => absurd c_11 (by decide)) (fun c_11 => ?_)
  refine w_bipush (v := (-2)) dX10_ties_14 (by decide) ?_
  exact w_ret dX10_ties_16 ⟨rfl, rfl, rfl⟩
set_option maxHeartbeats 4000000 in
set_option maxRecDepth 100000 in
theorem c_X10_ties_d {I : Mem} {J : Lng} {x d p : Int32} {k : Nat} (hx : pin1 x 4 = some k) (hd : pin d (10 ^ k) = none) : q_E yX10_ties cX10_ties 7 (some .int) 5 [.ref 89, .int x, .int d, .int p] I J (some (.int (-2))) (upI I 89 0 0) (J) := by
  have hnd := c_X10_noDeaths_d (I := upI I 89 0 0) (J := J) hx hd
  refine q_Ei me_X10_ties rfl (Nat.le_of_ble_eq_true rfl) ?_
  show q_w _ _ _ _ _ _ _ 0 [some (.ref 89), some (.int x), some (.int d), some (.int p), none, none, none] [] I J
  refine w_aload_n dX10_ties_0 rfl ?_
  refine w_iconst (v := 0) dX10_ties_1 (by decide) ?_
  refine w_putI dX10_ties_2 f_X10_41 (by first | assumption | rfl) rfl ?_
  refine w_aload_n dX10_ties_5 rfl ?_
  refine w_iload_n dX10_ties_6 rfl ?_
  refine w_iload_n dX10_ties_7 rfl ?_
  refine w_callVi dX10_ties_8 k_X10_145 (by first | assumption | rfl) rfl (hnd) rfl rfl rfl (Nat.le_of_ble_eq_true rfl) (by first | decide | omega) ?_
  refine w_if_eq (tgt := 17) dX10_ties_11 (by decide) (fun c_11 => absurd c_11 (by decide)) (fun c_11 => ?_)
  refine w_bipush (v := (-2)) dX10_ties_14 (by decide) ?_
  exact w_ret dX10_ties_16 ⟨rfl, rfl, rfl⟩
set_option maxHeartbeats 4000000 in
set_option maxRecDepth 100000 in
theorem c_X10_ties_n {I : Mem} {J : Lng} {N m : Nat} (hP : PW (I 92) N m) {x d p : Int32} {k e : Nat} (hx : pin1 x 4 = some k) (hd : pin d (10 ^ k) = some e) (hk : dok m k e 0 = false) : q_E yX10_ties cX10_ties 7 (some .int) 5 [.ref 89, .int x, .int d, .int p] I J (some (.int (-2))) (upI I 89 0 0) (J) := by
  have hnd := c_X10_noDeaths (I := upI I 89 0 0) (J := J) (by rw [t0_92]; exact hP) hx hd
  rw [hk] at hnd
  refine q_Ei me_X10_ties rfl (Nat.le_of_ble_eq_true rfl) ?_
  show q_w _ _ _ _ _ _ _ 0 [some (.ref 89), some (.int x), some (.int d), some (.int p), none, none, none] [] I J
  refine w_aload_n dX10_ties_0 rfl ?_
  refine w_iconst (v := 0) dX10_ties_1 (by decide) ?_
  refine w_putI dX10_ties_2 f_X10_41 (by first | assumption | rfl) rfl ?_
  refine w_aload_n dX10_ties_5 rfl ?_
  refine w_iload_n dX10_ties_6 rfl ?_
  refine w_iload_n dX10_ties_7 rfl ?_
  refine w_callVi dX10_ties_8 k_X10_145 (by first | assumption | rfl) rfl (hnd) rfl rfl rfl (Nat.le_of_ble_eq_true rfl) (by first | decide | omega) ?_
  refine w_if_eq (tgt := 17) dX10_ties_11 (by decide) (fun c_11 => absurd c_11 (show ¬ zB true = 0 by decide)) (fun c_11 => ?_)
  refine w_bipush (v := (-2)) dX10_ties_14 (by decide) ?_
  exact w_ret dX10_ties_16 ⟨rfl, rfl, rfl⟩
set_option maxHeartbeats 4000000 in
set_option maxRecDepth 100000 in
theorem c_X10_ties_u {I : Mem} {J : Lng} {N m : Nat} (hP : PW (I 92) N m) {x d p : Int32} {k e : Nat} (hx : pin1 x 4 = some k) (hd : pin d (10 ^ k) = some e) (hk : dok m k e 0 = true) (hp : pin p N = none) : q_E yX10_ties cX10_ties 7 (some .int) 5 [.ref 89, .int x, .int d, .int p] I J (some (.int (-1))) (upI I 89 0 0) (J) := by
  have hnd := c_X10_noDeaths (I := upI I 89 0 0) (J := J) (by rw [t0_92]; exact hP) hx hd
  rw [hk] at hnd
  have hnp := c_X10_noPerson (I := upI I 89 0 0) (J := J) (N := N) (by rw [t0_92]; exact hP.1) hP.2.1 (p := p)
  rw [hp] at hnp
  refine q_Ei me_X10_ties rfl (Nat.le_of_ble_eq_true rfl) ?_
  show q_w _ _ _ _ _ _ _ 0 [some (.ref 89), some (.int x), some (.int d), some (.int p), none, none, none] [] I J
  refine w_aload_n dX10_ties_0 rfl ?_
  refine w_iconst (v := 0) dX10_ties_1 (by decide) ?_
  refine w_putI dX10_ties_2 f_X10_41 (by first | assumption | rfl) rfl ?_
  refine w_aload_n dX10_ties_5 rfl ?_
  refine w_iload_n dX10_ties_6 rfl ?_
  refine w_iload_n dX10_ties_7 rfl ?_
  refine w_callVi dX10_ties_8 k_X10_145 (by first | assumption | rfl) rfl (hnd) rfl rfl rfl (Nat.le_of_ble_eq_true rfl) (by first | decide | omega) ?_
  refine w_if_eq (tgt := 17) dX10_ties_11 (by decide) (fun c_11 => ?_) (fun c_11 => absurd (rfl : zB false = 0) c_11)
  refine w_aload_n dX10_ties_17 rfl ?_
  refine w_iload_n dX10_ties_18 rfl ?_
  refine w_callVi dX10_ties_19 k_X10_104 (by first | assumption | rfl) rfl (hnp) rfl rfl rfl (Nat.le_of_ble_eq_true rfl) (by first | decide | omega) ?_
  refine w_if_eq (tgt := 27) dX10_ties_22 (by decide) (fun c_22 => absurd c_22 (show ¬ zB true = 0 by decide)) (fun c_22 => ?_)
  refine w_iconst (v := (-1)) dX10_ties_25 (by decide) ?_
  exact w_ret dX10_ties_26 ⟨rfl, rfl, rfl⟩
set_option maxHeartbeats 4000000 in
set_option maxRecDepth 100000 in
theorem l_ties_d {I : Mem} {J : Lng} {N n e R : Nat} {p s t : Int32} (hn : n < 5) (he : e < 2 ^ 31) (hpos : ∀ i, i < n → 0 < e / 10 ^ i % 10) {D : Nat → Int32} : ∀ (r : Nat) (I1 : Mem) (m : Nat), r ≤ n → Mr MSS I I1 → PW (I1 93) N m → pcan m (dq r e) = true → pdies N (I1 93) m (dq r e) = D → (∀ (I2 : Mem) (x6 : Option Value), Mr MSS I I2 → I2 93 = D → q_w yX10_ties.cls yX10_ties.name cX10_ties 7 .ireturn 5 (fun st I2 J1 => ∃ v : Int32, st = [.int v] ∧ (some (Value.int v) = some (.int (nI R)) ∧ J1 = J ∧ Mr MSS I I2)) 89 [some (.ref 89), some (.int (nI n)), some (.int (nI e)), some (.int (p)), some (.int (s)), some (.int (t)), x6] [] (I2) (J)) → q_w yX10_ties.cls yX10_ties.name cX10_ties 7 .ireturn 5 (fun st I2 J1 => ∃ v : Int32, st = [.int v] ∧ (some (Value.int v) = some (.int (nI R)) ∧ J1 = J ∧ Mr MSS I I2)) 56 [some (.ref 89), some (.int (nI n)), some (.int (nI e)), some (.int (p)), some (.int (s)), some (.int (t)), some (.int (nI r - 1))] [] (I1) (J) := by
  intro r
  induction r with
  | zero =>
    intro I1 m hr hM hP hc hD K
    have hD2 : I1 93 = D := hD
    refine w_iload dX10_ties_56 rfl ?_
    refine w_if_lt (tgt := 89) dX10_ties_58 (by decide) (fun c_58 => ?_) (fun c_58 => absurd m1_lt c_58)
    exact K _ _ hM hD2
  | succ r ih =>
    intro I1 m hr hM hP hc hD K
    have h7 := hP.2.1
    have hps := hpos r (by omega)
    have hc2 : m.testBit (e / 10 ^ r % 10 - 1) = true ∧ pcan (mclr m (e / 10 ^ r % 10 - 1)) (dq r e) = true := by simpa [dq, pcan] using hc
    have hD2 : pdies N (pdie (I1 93) N m (e / 10 ^ r % 10 - 1)) (mclr m (e / 10 ^ r % 10 - 1)) (dq r e) = D := hD
    have hjN := p2_bit hP.2.2.2.1 hc2.1
    have hpw := c_X10_power (I := I1) (J := J) (b := 10) (e := r) (by omega)
    have ex : nI (e / 10 ^ r % 10) - 1 = nI (e / 10 ^ r % 10 - 1) := by
      rw [show e / 10 ^ r % 10 = (e / 10 ^ r % 10 - 1) + 1 by omega, nI_pred]; rfl
    have hgd := c_X10_goDie (I := I1) (J := J) p93 hP hjN
    rw [nI_pred]
    refine w_iload dX10_ties_56 rfl ?_
    refine w_if_lt (tgt := 89) dX10_ties_58 (by decide) (fun c_58 => absurd c_58 (nI_pos (by omega))) (fun c_58 => ?_)
    refine w_aload_n dX10_ties_61 rfl ?_
    refine w_aload_n dX10_ties_62 rfl ?_
    refine w_getR dX10_ties_63 f_X10_19 (by first | assumption | rfl) rfl rfl ?_
    refine w_iload_n dX10_ties_66 rfl ?_
    refine w_bipush (v := 10) dX10_ties_67 (by decide) ?_
    refine w_iload dX10_ties_69 rfl ?_
    refine w_callSi dX10_ties_71 k_X10_136 (hpw) rfl rfl rfl (Nat.le_of_ble_eq_true rfl) (by first | decide | omega) ?_
    refine w_idiv dX10_ties_74 (e_ne (by omega)) ?_
    rw [e_div he (by omega)]
    refine w_bipush (v := 10) dX10_ties_75 (by decide) ?_
    refine w_irem dX10_ties_77 (by decide) ?_
    rw [rem10 (Nat.lt_of_le_of_lt (Nat.div_le_self _ _) he)]
    refine w_iconst (v := 1) dX10_ties_78 (by decide) ?_
    refine w_isub dX10_ties_79 ?_
    rw [ex]
    refine w_callVF dX10_ties_80 k_X10_115 (by first | assumption | rfl) rfl (hgd) rfl rfl rfl (Nat.le_of_ble_eq_true rfl) (by first | decide | omega) (fun r_80 I_80 J_80 h_80 => ?_)
    obtain ⟨rfl, rfl, hMD, h93⟩ := h_80
    refine w_iincv (c := (-1)) dX10_ties_83 (by decide) rfl (by decide) rfl ?_
    refine w_goto (tgt := 56) dX10_ties_86 (by decide) ?_
    rw [show nI r + (-1) = nI r - 1 from (Int32.sub_eq_add_neg _ _).symm]
    exact ih I_80 (mclr m (e / 10 ^ r % 10 - 1)) (by omega) (hM.tr (hMD.mr (by decide) (by decide) (by decide))) (by rw [h93]; exact hP.die hc2.1) hc2.2 (by rw [h93]; exact hD2) K
