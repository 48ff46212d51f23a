def zhH (a o : Int32) : Int32 := if o < a then 0 else o
def zhE (a o w : Int32) : Int32 := if o < a then 0 else w - o
/-- neither has more by another choice, from k on -/
def zr (a o w : Int32) : Nat → Nat → Bool
  | 0, _ => true
  | r + 1, k => if ¬ zhH (nI k) o ≤ zhH a o then false else if ¬ zhE a (nI k) w ≤ zhE a o w then false else zr a o w r (k + 1)
def zcb (w a : Int32) : Nat → Nat → Int32 → Int32
  | 0, _, c => c
  | r + 1, b, c => zcb w a r (b + 1) (if zr a (nI b) w 5 0 then c + 1 else c)
def zca (w : Int32) : Nat → Nat → Int32 → Int32
  | 0, _, c => c
  | r + 1, a, c => zca w r (a + 1) (zcb w (nI a) 5 0 c)
def zfb (w a : Int32) : Nat → Nat → Option Int32
  | 0, _ => none
  | r + 1, b => if zr a (nI b) w 5 0 then some (10 * a + nI b) else zfb w a r (b + 1)
def zfa (w : Int32) : Nat → Nat → Int32
  | 0, _ => -9
  | r + 1, a => match zfb w (nI a) 5 0 with
    | some v => v
    | none => zfa w r (a + 1)
theorem ge5 {k : Nat} (h : k < 5) : ¬ (5 : Int32) ≤ nI k := nI_ge (b := 5) h (by decide)
set_option maxHeartbeats 4000000 in
set_option maxRecDepth 100000 in
theorem c_X1_holderHas {I : Mem} {J : Lng} {a o : Int32} : q_E yX1_holderHas cX1_holderHas 2 (some .int) 0 [.int a, .int o] I J (some (.int (zhH a o))) (I) (J) := by
  refine q_Ei me_X1_holderHas rfl (Nat.le_of_ble_eq_true rfl) ?_
  show q_w _ _ _ _ _ _ _ 0 [some (.int a), some (.int o)] [] I J
  refine w_iload_n dX1_holderHas_0 rfl ?_
  refine w_iload_n dX1_holderHas_1 rfl ?_
  refine w_icmp_lt (tgt := 9) dX1_holderHas_2 (by decide) (fun c_2 => ?_) (fun c_2 => ?_)
  · refine w_iconst (v := 0) dX1_holderHas_9 (by decide) ?_
    exact w_ret dX1_holderHas_10 ⟨by simp [zhH, c_2], rfl, rfl⟩
  · refine w_iload_n dX1_holderHas_5 rfl ?_
    refine w_goto (tgt := 10) dX1_holderHas_6 (by decide) ?_
    exact w_ret dX1_holderHas_10 ⟨by simp [zhH, c_2], rfl, rfl⟩
set_option maxHeartbeats 4000000 in
set_option maxRecDepth 100000 in
theorem c_X1_heirHas {I : Mem} {J : Lng} {a o w : Int32} : q_E yX1_heirHas cX1_heirHas 3 (some .int) 0 [.int a, .int o, .int w] I J (some (.int (zhE a o w))) (I) (J) := by
  refine q_Ei me_X1_heirHas rfl (Nat.le_of_ble_eq_true rfl) ?_
  show q_w _ _ _ _ _ _ _ 0 [some (.int a), some (.int o), some (.int w)] [] I J
  refine w_iload_n dX1_heirHas_0 rfl ?_
  refine w_iload_n dX1_heirHas_1 rfl ?_
  refine w_icmp_lt (tgt := 11) dX1_heirHas_2 (by decide) (fun c_2 => ?_) (fun c_2 => ?_)
  · refine w_iconst (v := 0) dX1_heirHas_11 (by decide) ?_
    exact w_ret dX1_heirHas_12 ⟨by simp [zhE, c_2], rfl, rfl⟩
  · refine w_iload_n dX1_heirHas_5 rfl ?_
    refine w_iload_n dX1_heirHas_6 rfl ?_
    refine w_isub dX1_heirHas_7 ?_
    refine w_goto (tgt := 12) dX1_heirHas_8 (by decide) ?_
    exact w_ret dX1_heirHas_12 ⟨by simp [zhE, c_2], rfl, rfl⟩
set_option maxHeartbeats 4000000 in
set_option maxRecDepth 100000 in
theorem l_X1_isAtRest {I : Mem} {J : Lng} {a o w : Int32} : ∀ (r k : Nat), 5 - k = r → k ≤ 5 → zr a o w r k = zr a o w 5 0 → q_w yX1_isAtRest.cls yX1_isAtRest.name cX1_isAtRest 4 .ireturn 1 (fun st I1 J1 => st = [.int (zB (zr a o w 5 0))] ∧ I1 = I ∧ J1 = J) 2 [some (.int a), some (.int o), some (.int w), some (.int (nI k))] [] (I) (J) := by
  intro r
  induction r with
  | zero =>
    intro k hr hk hZ
    obtain rfl : k = 5 := by omega
    refine w_iload_n dX1_isAtRest_2 rfl ?_
    refine w_iconst (v := 5) dX1_isAtRest_3 (by decide) ?_
    refine w_icmp_ge (tgt := 45) dX1_isAtRest_4 (by decide) (fun c_4 => ?_) (fun c_4 => absurd (show (5 : Int32) ≤ nI 5 by decide) c_4)
    refine w_iconst (v := 1) dX1_isAtRest_45 (by decide) ?_
    exact w_ret dX1_isAtRest_46 ⟨by rw [← hZ]; rfl, rfl, rfl⟩
  | succ r ih =>
    intro k hr hk hZ
    have hk5 : k < 5 := by omega
    have hZ2 : (if ¬ zhH (nI k) o ≤ zhH a o then false else if ¬ zhE a (nI k) w ≤ zhE a o w then false else zr a o w r (k + 1)) = zr a o w 5 0 := hZ
    refine w_iload_n dX1_isAtRest_2 rfl ?_
    refine w_iconst (v := 5) dX1_isAtRest_3 (by decide) ?_
    refine w_icmp_ge (tgt := 45) dX1_isAtRest_4 (by decide) (fun c_4 => absurd c_4 (ge5 hk5)) (fun c_4 => ?_)
    refine w_iload_n dX1_isAtRest_7 rfl ?_
    refine w_iload_n dX1_isAtRest_8 rfl ?_
    refine w_callSi dX1_isAtRest_9 k_X1_15 (c_X1_holderHas) rfl rfl rfl (Nat.le_of_ble_eq_true rfl) (by first | decide | omega) ?_
    refine w_iload_n dX1_isAtRest_12 rfl ?_
    refine w_iload_n dX1_isAtRest_13 rfl ?_
    refine w_callSi dX1_isAtRest_14 k_X1_15 (c_X1_holderHas) rfl rfl rfl (Nat.le_of_ble_eq_true rfl) (by first | decide | omega) ?_
    refine w_icmp_le (tgt := 22) dX1_isAtRest_17 (by decide) (fun c_17 => ?_) (fun c_17 => ?_)
    · refine w_iload_n dX1_isAtRest_22 rfl ?_
      refine w_iload_n dX1_isAtRest_23 rfl ?_
      refine w_iload_n dX1_isAtRest_24 rfl ?_
      refine w_callSi dX1_isAtRest_25 k_X1_19 (c_X1_heirHas) rfl rfl rfl (Nat.le_of_ble_eq_true rfl) (by first | decide | omega) ?_
      refine w_iload_n dX1_isAtRest_28 rfl ?_
      refine w_iload_n dX1_isAtRest_29 rfl ?_
      refine w_iload_n dX1_isAtRest_30 rfl ?_
      refine w_callSi dX1_isAtRest_31 k_X1_19 (c_X1_heirHas) rfl rfl rfl (Nat.le_of_ble_eq_true rfl) (by first | decide | omega) ?_
      refine w_icmp_le (tgt := 39) dX1_isAtRest_34 (by decide) (fun c_34 => ?_) (fun c_34 => ?_)
      · refine w_iincv (c := 1) dX1_isAtRest_39 (by decide) rfl (by decide) rfl ?_
        refine w_goto (tgt := 2) dX1_isAtRest_42 (by decide) ?_
        rw [if_neg (fun q => q c_17), if_neg (fun q => q c_34)] at hZ2
        rw [nI_1]
        exact ih (k + 1) (by omega) (by omega) hZ2
      · refine w_iconst (v := 0) dX1_isAtRest_37 (by decide) ?_
        exact w_ret dX1_isAtRest_38 ⟨by rw [← hZ2, if_neg (fun q => q c_17), if_pos c_34]; rfl, rfl, rfl⟩
    · refine w_iconst (v := 0) dX1_isAtRest_20 (by decide) ?_
      exact w_ret dX1_isAtRest_21 ⟨by rw [← hZ2, if_pos c_17]; rfl, rfl, rfl⟩
set_option maxHeartbeats 4000000 in
set_option maxRecDepth 100000 in
theorem c_X1_isAtRest {I : Mem} {J : Lng} {a o w : Int32} : q_E yX1_isAtRest cX1_isAtRest 4 (some .boolean) 1 [.int a, .int o, .int w] I J (some (.int (zB (zr a o w 5 0)))) (I) (J) := by
  refine q_Ez (zB_01 _) me_X1_isAtRest rfl (Nat.le_of_ble_eq_true rfl) ?_
  show q_w _ _ _ _ _ _ _ 0 [some (.int a), some (.int o), some (.int w), none] [] I J
  refine w_iconst (v := 0) dX1_isAtRest_0 (by decide) ?_
  refine w_istore_n dX1_isAtRest_1 (by decide) rfl ?_
  exact l_X1_isAtRest 5 0 rfl (by decide) rfl
set_option maxHeartbeats 4000000 in
set_option maxRecDepth 100000 in
theorem l_X1_countRests_b {I : Mem} {J : Lng} {w : Int32} {a : Nat} : ∀ (r b : Nat) (c : Int32), 5 - b = r → b ≤ 5 → (∀ x3, q_w yX1_countRests.cls yX1_countRests.name cX1_countRests 4 .ireturn 2 (fun st I1 J1 => st = [.int (zca w 5 0 0)] ∧ I1 = I ∧ J1 = J) 34 [some (.int w), some (.int (zcb w (nI a) r b c)), some (.int (nI a)), x3] [] (I) (J)) → q_w yX1_countRests.cls yX1_countRests.name cX1_countRests 4 .ireturn 2 (fun st I1 J1 => st = [.int (zca w 5 0 0)] ∧ I1 = I ∧ J1 = J) 11 [some (.int w), some (.int c), some (.int (nI a)), some (.int (nI b))] [] (I) (J) := by
  intro r
  induction r with
  | zero =>
    intro b c hr hb K
    obtain rfl : b = 5 := by omega
    refine w_iload_n dX1_countRests_11 rfl ?_
    refine w_iconst (v := 5) dX1_countRests_12 (by decide) ?_
    refine w_icmp_ge (tgt := 34) dX1_countRests_13 (by decide) (fun c_13 => ?_) (fun c_13 => absurd (show (5 : Int32) ≤ nI 5 by decide) c_13)
    exact K _
  | succ r ih =>
    intro b c hr hb K
    have hb5 : b < 5 := by omega
    refine w_iload_n dX1_countRests_11 rfl ?_
    refine w_iconst (v := 5) dX1_countRests_12 (by decide) ?_
    refine w_icmp_ge (tgt := 34) dX1_countRests_13 (by decide) (fun c_13 => absurd c_13 (ge5 hb5)) (fun c_13 => ?_)
    refine w_iload_n dX1_countRests_16 rfl ?_
    refine w_iload_n dX1_countRests_17 rfl ?_
    refine w_iload_n dX1_countRests_18 rfl ?_
    refine w_callSi dX1_countRests_19 k_X1_11 (c_X1_isAtRest) rfl rfl rfl (Nat.le_of_ble_eq_true rfl) (by first | decide | omega) ?_
    refine w_if_eq (tgt := 28) dX1_countRests_22 (by decide) (fun c_22 => ?_) (fun c_22 => ?_)
    · refine w_iincv (c := 1) dX1_countRests_28 (by decide) rfl (by decide) rfl ?_
      refine w_goto (tgt := 11) dX1_countRests_31 (by decide) ?_
      rw [nI_1]
      refine ih (b + 1) _ (by omega) (by omega) (fun x3 => ?_)
      have K2 := K x3
      unfold zcb at K2
      rw [zB_eq0.mp c_22] at K2
      exact K2
    · refine w_iincv (c := 1) dX1_countRests_25 (by decide) rfl (by decide) rfl ?_
      refine w_iincv (c := 1) dX1_countRests_28 (by decide) rfl (by decide) rfl ?_
      refine w_goto (tgt := 11) dX1_countRests_31 (by decide) ?_
      rw [nI_1]
      refine ih (b + 1) _ (by omega) (by omega) (fun x3 => ?_)
      have K2 := K x3
      unfold zcb at K2
      rw [show zr (nI a) (nI b) w 5 0 = true by simpa [zB_eq0] using c_22] at K2
      exact K2
set_option maxHeartbeats 4000000 in
set_option maxRecDepth 100000 in
theorem l_X1_countRests {I : Mem} {J : Lng} {w : Int32} : ∀ (r a : Nat) (c : Int32) (x3 : Option Value), 5 - a = r → a ≤ 5 → zca w r a c = zca w 5 0 0 → q_w yX1_countRests.cls yX1_countRests.name cX1_countRests 4 .ireturn 2 (fun st I1 J1 => st = [.int (zca w 5 0 0)] ∧ I1 = I ∧ J1 = J) 4 [some (.int w), some (.int c), some (.int (nI a)), x3] [] (I) (J) := by
  intro r
  induction r with
  | zero =>
    intro a c x3 hr ha hZ
    obtain rfl : a = 5 := by omega
    refine w_iload_n dX1_countRests_4 rfl ?_
    refine w_iconst (v := 5) dX1_countRests_5 (by decide) ?_
    refine w_icmp_ge (tgt := 40) dX1_countRests_6 (by decide) (fun c_6 => ?_) (fun c_6 => absurd (show (5 : Int32) ≤ nI 5 by decide) c_6)
    refine w_iload_n dX1_countRests_40 rfl ?_
    exact w_ret dX1_countRests_41 ⟨by rw [← hZ]; rfl, rfl, rfl⟩
  | succ r ih =>
    intro a c x3 hr ha hZ
    have ha5 : a < 5 := by omega
    refine w_iload_n dX1_countRests_4 rfl ?_
    refine w_iconst (v := 5) dX1_countRests_5 (by decide) ?_
    refine w_icmp_ge (tgt := 40) dX1_countRests_6 (by decide) (fun c_6 => absurd c_6 (ge5 ha5)) (fun c_6 => ?_)
    refine w_iconst (v := 0) dX1_countRests_9 (by decide) ?_
    refine w_istore_n dX1_countRests_10 (by decide) rfl ?_
    refine l_X1_countRests_b 5 0 c rfl (by decide) (fun x3 => ?_)
    refine w_iincv (c := 1) dX1_countRests_34 (by decide) rfl (by decide) rfl ?_
    refine w_goto (tgt := 4) dX1_countRests_37 (by decide) ?_
    rw [nI_1]
    exact ih (a + 1) _ _ (by omega) (by omega) hZ
set_option maxHeartbeats 4000000 in
set_option maxRecDepth 100000 in
theorem c_X1_countRests {I : Mem} {J : Lng} {w : Int32} : q_E yX1_countRests cX1_countRests 4 (some .int) 2 [.int w] I J (some (.int (zca w 5 0 0))) (I) (J) := by
  refine q_Ei me_X1_countRests rfl (Nat.le_of_ble_eq_true rfl) ?_
  show q_w _ _ _ _ _ _ _ 0 [some (.int w), none, none, none] [] I J
  refine w_iconst (v := 0) dX1_countRests_0 (by decide) ?_
  refine w_istore_n dX1_countRests_1 (by decide) rfl ?_
  refine w_iconst (v := 0) dX1_countRests_2 (by decide) ?_
  refine w_istore_n dX1_countRests_3 (by decide) rfl ?_
  exact l_X1_countRests 5 0 0 _ rfl (by decide) rfl
set_option maxHeartbeats 4000000 in
set_option maxRecDepth 100000 in
theorem l_X1_firstRest_b {I : Mem} {J : Lng} {w : Int32} {a : Nat} : ∀ (r b : Nat), 5 - b = r → b ≤ 5 → (∀ v, zfb w (nI a) r b = some v → v = zfa w 5 0) → (zfb w (nI a) r b = none → ∀ x3, q_w yX1_firstRest.cls yX1_firstRest.name cX1_firstRest 3 .ireturn 2 (fun st I1 J1 => st = [.int (zfa w 5 0)] ∧ I1 = I ∧ J1 = J) 36 [some (.int w), some (.int (nI a)), x3] [] (I) (J)) → q_w yX1_firstRest.cls yX1_firstRest.name cX1_firstRest 3 .ireturn 2 (fun st I1 J1 => st = [.int (zfa w 5 0)] ∧ I1 = I ∧ J1 = J) 9 [some (.int w), some (.int (nI a)), some (.int (nI b))] [] (I) (J) := by
  intro r
  induction r with
  | zero =>
    intro b hr hb V K
    obtain rfl : b = 5 := by omega
    refine w_iload_n dX1_firstRest_9 rfl ?_
    refine w_iconst (v := 5) dX1_firstRest_10 (by decide) ?_
    refine w_icmp_ge (tgt := 36) dX1_firstRest_11 (by decide) (fun c_11 => ?_) (fun c_11 => absurd (show (5 : Int32) ≤ nI 5 by decide) c_11)
    exact K rfl _
  | succ r ih =>
    intro b hr hb V K
    have hb5 : b < 5 := by omega
    unfold zfb at V K
    refine w_iload_n dX1_firstRest_9 rfl ?_
    refine w_iconst (v := 5) dX1_firstRest_10 (by decide) ?_
    refine w_icmp_ge (tgt := 36) dX1_firstRest_11 (by decide) (fun c_11 => absurd c_11 (ge5 hb5)) (fun c_11 => ?_)
    refine w_iload_n dX1_firstRest_14 rfl ?_
    refine w_iload_n dX1_firstRest_15 rfl ?_
    refine w_iload_n dX1_firstRest_16 rfl ?_
    refine w_callSi dX1_firstRest_17 k_X1_11 (c_X1_isAtRest) rfl rfl rfl (Nat.le_of_ble_eq_true rfl) (by first | decide | omega) ?_
    refine w_if_eq (tgt := 30) dX1_firstRest_20 (by decide) (fun c_20 => ?_) (fun c_20 => ?_)
    · refine w_iincv (c := 1) dX1_firstRest_30 (by decide) rfl (by decide) rfl ?_
      refine w_goto (tgt := 9) dX1_firstRest_33 (by decide) ?_
      rw [zB_eq0.mp c_20] at V K
      rw [nI_1]
      exact ih (b + 1) (by omega) (by omega) V K
    · refine w_bipush (v := 10) dX1_firstRest_23 (by decide) ?_
      refine w_iload_n dX1_firstRest_25 rfl ?_
      refine w_imul dX1_firstRest_26 ?_
      refine w_iload_n dX1_firstRest_27 rfl ?_
      refine w_iadd dX1_firstRest_28 ?_
      rw [show zr (nI a) (nI b) w 5 0 = true by simpa [zB_eq0] using c_20] at V
      exact w_ret dX1_firstRest_29 ⟨by rw [← V _ rfl], rfl, rfl⟩
set_option maxHeartbeats 4000000 in
set_option maxRecDepth 100000 in
theorem l_X1_firstRest {I : Mem} {J : Lng} {w : Int32} : ∀ (r a : Nat) (x3 : Option Value), 5 - a = r → a ≤ 5 → zfa w r a = zfa w 5 0 → q_w yX1_firstRest.cls yX1_firstRest.name cX1_firstRest 3 .ireturn 2 (fun st I1 J1 => st = [.int (zfa w 5 0)] ∧ I1 = I ∧ J1 = J) 2 [some (.int w), some (.int (nI a)), x3] [] (I) (J) := by
  intro r
  induction r with
  | zero =>
    intro a x3 hr ha hZ
    obtain rfl : a = 5 := by omega
    refine w_iload_n dX1_firstRest_2 rfl ?_
    refine w_iconst (v := 5) dX1_firstRest_3 (by decide) ?_
    refine w_icmp_ge (tgt := 42) dX1_firstRest_4 (by decide) (fun c_4 => ?_) (fun c_4 => absurd (show (5 : Int32) ≤ nI 5 by decide) c_4)
    refine w_bipush (v := (-9)) dX1_firstRest_42 (by decide) ?_
    exact w_ret dX1_firstRest_44 ⟨by rw [← hZ]; rfl, rfl, rfl⟩
  | succ r ih =>
    intro a x3 hr ha hZ
    have ha5 : a < 5 := by omega
    have hZ2 : (match zfb w (nI a) 5 0 with | some v => v | none => zfa w r (a + 1)) = zfa w 5 0 := hZ
    refine w_iload_n dX1_firstRest_2 rfl ?_
    refine w_iconst (v := 5) dX1_firstRest_3 (by decide) ?_
    refine w_icmp_ge (tgt := 42) dX1_firstRest_4 (by decide) (fun c_4 => absurd c_4 (ge5 ha5)) (fun c_4 => ?_)
    refine w_iconst (v := 0) dX1_firstRest_7 (by decide) ?_
    refine w_istore_n dX1_firstRest_8 (by decide) rfl ?_
    refine l_X1_firstRest_b 5 0 rfl (by decide) (fun v hv => by rw [hv] at hZ2; exact hZ2) (fun hv x3 => ?_)
    rw [hv] at hZ2
    refine w_iincv (c := 1) dX1_firstRest_36 (by decide) rfl (by decide) rfl ?_
    refine w_goto (tgt := 2) dX1_firstRest_39 (by decide) ?_
    rw [nI_1]
    exact ih (a + 1) _ (by omega) (by omega) hZ2
set_option maxHeartbeats 4000000 in
set_option maxRecDepth 100000 in
theorem c_X1_firstRest {I : Mem} {J : Lng} {w : Int32} : q_E yX1_firstRest cX1_firstRest 3 (some .int) 2 [.int w] I J (some (.int (zfa w 5 0))) (I) (J) := by
  refine q_Ei me_X1_firstRest rfl (Nat.le_of_ble_eq_true rfl) ?_
  show q_w _ _ _ _ _ _ _ 0 [some (.int w), none, none] [] I J
  refine w_iconst (v := 0) dX1_firstRest_0 (by decide) ?_
  refine w_istore_n dX1_firstRest_1 (by decide) rfl ?_
  exact l_X1_firstRest 5 0 _ rfl (by decide) rfl
/-- Euclid, so many steps at most -/
def zgc : Nat → Int32 → Int32 → Int32
  | 0, g, _ => g
  | r + 1, g, l => if l = 0 then g else zgc r l (g - g / l * l)
def zpart (a b : Int32) (u : Bool) : Int32 := if zgc 64 a b = 0 then 0 else cond u (a / zgc 64 a b) (b / zgc 64 a b)
set_option maxHeartbeats 4000000 in
set_option maxRecDepth 100000 in
theorem l_X4_greatestCommon {I : Mem} {J : Lng} {a b v : Int32} : ∀ (r k : Nat) (g l : Int32) (x5 : Option Value), 64 - k = r → k ≤ 64 → zgc r g l = v → q_w yX4_greatestCommon.cls yX4_greatestCommon.name cX4_greatestCommon 6 .ireturn 0 (fun st I1 J1 => st = [.int v] ∧ I1 = I ∧ J1 = J) 7 [some (.int a), some (.int b), some (.int g), some (.int l), some (.int (nI k)), x5] [] (I) (J) := by
  intro r
  induction r with
  | zero =>
    intro k g l x5 hr hk hZ
    obtain rfl : k = 64 := by omega
    refine w_iload dX4_greatestCommon_7 rfl ?_
    refine w_bipush (v := 64) dX4_greatestCommon_9 (by decide) ?_
    refine w_icmp_ge (tgt := 34) dX4_greatestCommon_11 (by decide) (fun c_11 => ?_) (fun c_11 => absurd (show (64 : Int32) ≤ nI 64 by decide) c_11)
    refine w_iload_n dX4_greatestCommon_34 rfl ?_
    exact w_ret dX4_greatestCommon_35 ⟨by rw [← hZ]; rfl, rfl, rfl⟩
  | succ r ih =>
    intro k g l x5 hr hk hZ
    have hk6 : k < 64 := by omega
    have hZ2 : (if l = 0 then g else zgc r l (g - g / l * l)) = v := hZ
    refine w_iload dX4_greatestCommon_7 rfl ?_
    refine w_bipush (v := 64) dX4_greatestCommon_9 (by decide) ?_
    refine w_icmp_ge (tgt := 34) dX4_greatestCommon_11 (by decide) (fun c_11 => absurd c_11 (nI_ge (b := 64) hk6 (by decide))) (fun c_11 => ?_)
    refine w_iload_n dX4_greatestCommon_14 rfl ?_
    refine w_if_eq (tgt := 34) dX4_greatestCommon_15 (by decide) (fun c_15 => ?_) (fun c_15 => ?_)
    · refine w_iload_n dX4_greatestCommon_34 rfl ?_
      exact w_ret dX4_greatestCommon_35 ⟨by rw [← hZ2, if_pos c_15], rfl, rfl⟩
    · refine w_iload_n dX4_greatestCommon_18 rfl ?_
      refine w_iload_n dX4_greatestCommon_19 rfl ?_
      refine w_irem dX4_greatestCommon_20 c_15 ?_
      refine w_istore dX4_greatestCommon_21 (by decide) rfl ?_
      refine w_iload_n dX4_greatestCommon_23 rfl ?_
      refine w_istore_n dX4_greatestCommon_24 (by decide) rfl ?_
      refine w_iload dX4_greatestCommon_25 rfl ?_
      refine w_istore_n dX4_greatestCommon_27 (by decide) rfl ?_
      refine w_iincv (c := 1) dX4_greatestCommon_28 (by decide) rfl (by decide) rfl ?_
      refine w_goto (tgt := 7) dX4_greatestCommon_31 (by decide) ?_
      rw [if_neg c_15] at hZ2
      rw [nI_1]
      exact ih (k + 1) _ _ _ (by omega) (by omega) hZ2
set_option maxHeartbeats 4000000 in
set_option maxRecDepth 100000 in
theorem c_X4_greatestCommon {I : Mem} {J : Lng} {a b : Int32} : q_E yX4_greatestCommon cX4_greatestCommon 6 (some .int) 0 [.int a, .int b] I J (some (.int (zgc 64 a b))) (I) (J) := by
  refine q_Ei me_X4_greatestCommon rfl (Nat.le_of_ble_eq_true rfl) ?_
  show q_w _ _ _ _ _ _ _ 0 [some (.int a), some (.int b), none, none, none, none] [] I J
  refine w_iload_n dX4_greatestCommon_0 rfl ?_
  refine w_istore_n dX4_greatestCommon_1 (by decide) rfl ?_
  refine w_iload_n dX4_greatestCommon_2 rfl ?_
  refine w_istore_n dX4_greatestCommon_3 (by decide) rfl ?_
  refine w_iconst (v := 0) dX4_greatestCommon_4 (by decide) ?_
  refine w_istore dX4_greatestCommon_5 (by decide) rfl ?_
  exact l_X4_greatestCommon 64 0 a b _ rfl (by decide) rfl
set_option maxHeartbeats 4000000 in
set_option maxRecDepth 100000 in
theorem c_X4_part {I : Mem} {J : Lng} {a b : Int32} {u : Bool} : q_E yX4_part cX4_part 4 (some .int) 1 [.int a, .int b, .int (zB u)] I J (some (.int (zpart a b u))) (I) (J) := by
  refine q_Ei me_X4_part rfl (Nat.le_of_ble_eq_true rfl) ?_
  show q_w _ _ _ _ _ _ _ 0 [some (.int a), some (.int b), some (.int (zB u)), none] [] I J
  refine w_iload_n dX4_part_0 rfl ?_
  refine w_iload_n dX4_part_1 rfl ?_
  refine w_callSi dX4_part_2 k_X4_7 (c_X4_greatestCommon) rfl rfl rfl (Nat.le_of_ble_eq_true rfl) (by first | decide | omega) ?_
  refine w_istore_n dX4_part_5 (by decide) rfl ?_
  refine w_iload_n dX4_part_6 rfl ?_
  refine w_if_ne (tgt := 12) dX4_part_7 (by decide) (fun c_7 => ?_) (fun c_7 => ?_)
  · refine w_iload_n dX4_part_12 rfl ?_
    refine w_if_eq (tgt := 22) dX4_part_13 (by decide) (fun c_13 => ?_) (fun c_13 => ?_)
    · refine w_iload_n dX4_part_22 rfl ?_
      refine w_iload_n dX4_part_23 rfl ?_
      refine w_idiv dX4_part_24 c_7 ?_
      have e := zB_eq0.mp c_13
      subst e
      exact w_ret dX4_part_25 ⟨by rw [zpart, if_neg c_7]; rfl, rfl, rfl⟩
    · refine w_iload_n dX4_part_16 rfl ?_
      refine w_iload_n dX4_part_17 rfl ?_
      refine w_idiv dX4_part_18 c_7 ?_
      refine w_goto (tgt := 25) dX4_part_19 (by decide) ?_
      have e : u = true := by simpa [zB_eq0] using c_13
      subst e
      exact w_ret dX4_part_25 ⟨by rw [zpart, if_neg c_7]; rfl, rfl, rfl⟩
  · refine w_iconst (v := 0) dX4_part_10 (by decide) ?_
    exact w_ret dX4_part_11 ⟨by rw [zpart, if_pos c_7], rfl, rfl⟩
