theorem fidx_app {x y : Nat} : ∀ (a : List Nat) (k : Nat), fidx x (a ++ [y]) k = (fidx x a k).or (if y = x then some (k + a.length) else none)
  | [], k => by
    show (if y = x then some k else none) = _
    rw [show fidx x [] k = none from rfl, Option.none_or]; rfl
  | b :: a, k => by
    show (if b = x then some k else fidx x (a ++ [y]) (k + 1)) = (if b = x then some k else fidx x a (k + 1)).or _
    by_cases h : b = x
    · rw [if_pos h, if_pos h, Option.some_or]
    · rw [if_neg h, if_neg h, fidx_app a (k + 1), List.length_cons, show k + 1 + a.length = k + (a.length + 1) by omega]
theorem fidx_no {x : Nat} : ∀ (a : List Nat) (k : Nat), x ∉ a → fidx x a k = none
  | [], k, _ => rfl
  | b :: a, k, h => by
    show (if b = x then some k else fidx x a (k + 1)) = none
    rw [if_neg (show ¬ b = x from fun e => h (e ▸ List.mem_cons_self)), fidx_no a (k + 1) (fun q => h (List.mem_cons_of_mem _ q))]
set_option maxHeartbeats 4000000 in
set_option maxRecDepth 100000 in
theorem l_X10_line {I I1 : Mem} {J : Lng} {l : List Nat} {x : Nat} {tj tt : Int32} (hR : RW I1 l) (hd : l.Nodup) (h7 : l.length ≤ 7) (hl : ∀ y, y ∈ l → y < 7) (hx : x < 7) (hM : Mr MSS I I1) : ∀ (rest pre : List Nat), l = pre ++ rest → q_w yX10_line.cls yX10_line.name cX10_line 6 .ireturn 3 (fun st I2 J1 => ∃ v : Int32, st = [.int v] ∧ (some (Value.int v) = some (.int (oI (fidx x l 0))) ∧ J1 = J ∧ Mr MSS I I2)) 50 [some (.ref 89), some (.int (tj)), some (.int (nI x)), some (.int (tt)), some (.int (oI (fidx x pre 0))), some (.int (nI pre.length))] [] (I1) (J) := by
  intro rest
  induction rest with
  | nil =>
    intro pre e
    have hl2 : pre = l := by rw [e]; simp
    subst hl2
    refine w_iload dX10_line_50 rfl ?_
    refine w_aload_n dX10_line_52 rfl ?_
    refine w_getI dX10_line_53 f_X10_86 (by first | assumption | rfl) rfl ?_
    refine w_icmp_ge (tgt := 85) dX10_line_56 (by decide) (fun c_56 => ?_) (fun c_56 => absurd (by rw [hR.1]; exact Int32.le_refl _) c_56)
    refine w_iload dX10_line_85 rfl ?_
    exact w_ret dX10_line_87 ⟨_, rfl, rfl, rfl, hM⟩
  | cons y rest ih =>
    intro pre e
    have hlt : pre.length < l.length := by rw [e]; simp
    have hy : I1 97 pre.length = nI y := by rw [hR.2 _ hlt, e]; simp [List.getD]
    have hy7 : y < 7 := hl y (by rw [e]; simp)
    have hih := ih (pre ++ [y]) (by rw [e]; simp)
    rw [fidx_app, Nat.zero_add, show (pre ++ [y]).length = pre.length + 1 by simp] at hih
    refine w_iload dX10_line_50 rfl ?_
    refine w_aload_n dX10_line_52 rfl ?_
    refine w_getI dX10_line_53 f_X10_86 (by first | assumption | rfl) rfl ?_
    refine w_icmp_ge (tgt := 85) dX10_line_56 (by decide) (fun c_56 => absurd c_56 (by rw [hR.1]; exact nI_ge hlt (by omega))) (fun c_56 => ?_)
    refine w_aload_n dX10_line_59 rfl ?_
    refine w_getR dX10_line_60 f_X10_32 (by first | assumption | rfl) rfl rfl ?_
    refine w_iload dX10_line_63 rfl ?_
    refine w_iald (j := pre.length) dX10_line_65 (by first | assumption | rfl) rfl rfl (show pre.length < 8 by omega) (by decide) ?_
    rw [hy]
    refine w_iload_n dX10_line_66 rfl ?_
    refine w_icmp_ne (tgt := 75) dX10_line_67 (by decide) (fun c_67 => ?_) (fun c_67 => ?_)
    · refine w_iload dX10_line_75 rfl ?_
      refine w_istore dX10_line_77 (by decide) rfl ?_
      refine w_iincv (c := 1) dX10_line_79 (by decide) rfl (by decide) rfl ?_
      refine w_goto (tgt := 50) dX10_line_82 (by decide) ?_
      have hne : ¬ y = x := fun e => c_67 (by rw [e])
      rw [if_neg hne, Option.or_none] at hih
      rw [nI_1]
      exact hih
    · refine w_iload dX10_line_70 rfl ?_
      refine w_goto (tgt := 77) dX10_line_72 (by decide) ?_
      refine w_istore dX10_line_77 (by decide) rfl ?_
      refine w_iincv (c := 1) dX10_line_79 (by decide) rfl (by decide) rfl ?_
      refine w_goto (tgt := 50) dX10_line_82 (by decide) ?_
      have hye : y = x := nI_inj (by omega) (by omega) c_67
      have hno : x ∉ pre := by
        intro q
        rw [e, List.nodup_append] at hd
        exact hd.2.2 x q y List.mem_cons_self hye.symm
      rw [if_pos hye, fidx_no pre 0 hno, Option.none_or] at hih
      rw [nI_1]
      exact hih
set_option maxHeartbeats 4000000 in
set_option maxRecDepth 100000 in
theorem c_X10_line_u {I : Mem} {J : Lng} {N m : Nat} (hP : PW (I 92) N m) {p o t : Int32} (hp : pin p N = none ∨ pin o N = none) : q_E yX10_line cX10_line 6 (some .int) 3 [.ref 89, .int p, .int o, .int t] I J (some (.int (-1))) (upI I 89 0 0) (J) := by
  have hnp := c_X10_noPerson (I := upI I 89 0 0) (J := J) (N := N) (by rw [t0_92]; exact hP.1) hP.2.1 (p := p)
  have hno := c_X10_noPerson (I := upI I 89 0 0) (J := J) (N := N) (by rw [t0_92]; exact hP.1) hP.2.1 (p := o)
  refine q_Ei me_X10_line rfl (Nat.le_of_ble_eq_true rfl) ?_
  show q_w _ _ _ _ _ _ _ 0 [some (.ref 89), some (.int p), some (.int o), some (.int t), none, none] [] I J
  refine w_aload_n dX10_line_0 rfl ?_
  refine w_iconst (v := 0) dX10_line_1 (by decide) ?_
  refine w_putI dX10_line_2 f_X10_41 (by first | assumption | rfl) rfl ?_
  refine w_aload_n dX10_line_5 rfl ?_
  refine w_iload_n dX10_line_6 rfl ?_
  refine w_callVi dX10_line_7 k_X10_104 (by first | assumption | rfl) rfl (hnp) rfl rfl rfl (Nat.le_of_ble_eq_true rfl) (by first | decide | omega) ?_
  refine w_if_ne (tgt := 21) dX10_line_10 (by decide) (fun c_10 => ?_) (fun c_10 => ?_)
  · refine w_iconst (v := (-1)) dX10_line_21 (by decide) ?_
    exact w_ret dX10_line_22 ⟨rfl, rfl, rfl⟩
  · refine w_aload_n dX10_line_13 rfl ?_
    refine w_iload_n dX10_line_14 rfl ?_
    refine w_callVi dX10_line_15 k_X10_104 (by first | assumption | rfl) rfl (hno) rfl rfl rfl (Nat.le_of_ble_eq_true rfl) (by first | decide | omega) ?_
    refine w_if_eq (tgt := 23) dX10_line_18 (by decide) (fun c_18 => ?_) (fun c_18 => ?_)
    · exfalso
      rcases hp with hp | hp
      · rw [hp] at c_10; exact absurd c_10 (by decide)
      · rw [hp] at c_18; exact absurd c_18 (by decide)
    · refine w_iconst (v := (-1)) dX10_line_21 (by decide) ?_
      exact w_ret dX10_line_22 ⟨rfl, rfl, rfl⟩
set_option maxHeartbeats 4000000 in
set_option maxRecDepth 100000 in
theorem c_X10_line_b {I : Mem} {J : Lng} {N m : Nat} (hP : PW (I 92) N m) {p o t : Int32} {j x : Nat} (hp : pin p N = some j) (ho : pin o N = some x) (ht : pin t 4 = none) : q_E yX10_line cX10_line 6 (some .int) 3 [.ref 89, .int p, .int o, .int t] I J (some (.int (-2))) (upI I 89 0 0) (J) := by
  have hnp := c_X10_noPerson (I := upI I 89 0 0) (J := J) (N := N) (by rw [t0_92]; exact hP.1) hP.2.1 (p := p)
  have hno := c_X10_noPerson (I := upI I 89 0 0) (J := J) (N := N) (by rw [t0_92]; exact hP.1) hP.2.1 (p := o)
  rw [hp] at hnp
  rw [ho] at hno
  have h7 := hP.2.1
  obtain ⟨hj, rfl⟩ := pin_some (by omega) hp
  obtain ⟨hx, rfl⟩ := pin_some (by omega) ho
  have htt := c_X10_noTie (I := upI I 89 0 0) (J := J) (t := t)
  rw [ht] at htt
  refine q_Ei me_X10_line rfl (Nat.le_of_ble_eq_true rfl) ?_
  show q_w _ _ _ _ _ _ _ 0 [some (.ref 89), some (.int (nI j)), some (.int (nI x)), some (.int t), none, none] [] I J
  refine w_aload_n dX10_line_0 rfl ?_
  refine w_iconst (v := 0) dX10_line_1 (by decide) ?_
  refine w_putI dX10_line_2 f_X10_41 (by first | assumption | rfl) rfl ?_
  refine w_aload_n dX10_line_5 rfl ?_
  refine w_iload_n dX10_line_6 rfl ?_
  refine w_callVi dX10_line_7 k_X10_104 (by first | assumption | rfl) rfl (hnp) rfl rfl rfl (Nat.le_of_ble_eq_true rfl) (by first | decide | omega) ?_
  refine w_if_ne (tgt := 21) dX10_line_10 (by decide) (fun c_10 => absurd c_10 (fun q => q rfl)) (fun c_10 => ?_)
  refine w_aload_n dX10_line_13 rfl ?_
  refine w_iload_n dX10_line_14 rfl ?_
  refine w_callVi dX10_line_15 k_X10_104 (by first | assumption | rfl) rfl (hno) rfl rfl rfl (Nat.le_of_ble_eq_true rfl) (by first | decide | omega) ?_
  refine w_if_eq (tgt := 23) dX10_line_18 (by decide) (fun c_18 => ?_) (fun c_18 => absurd (rfl : zB false = 0) c_18)
  refine w_iload_n dX10_line_23 rfl ?_
  refine w_callSi dX10_line_24 k_X10_121 (htt) rfl rfl rfl (Nat.le_of_ble_eq_true rfl) (by first | decide | omega) ?_
  refine w_if_eq (tgt := 33) dX10_line_27 (by decide) (fun c_27 => absurd c_27 (show ¬ zB true = 0 by decide)) (fun c_27 => ?_)
  refine w_bipush (v := (-2)) dX10_line_30 (by decide) ?_
  exact w_ret dX10_line_32 ⟨rfl, rfl, rfl⟩
set_option maxHeartbeats 4000000 in
set_option maxRecDepth 100000 in
theorem c_X10_line {I : Mem} {J : Lng} {N m : Nat} (hP : PW (I 92) N m) {p o t : Int32} {j x k : Nat} (hp : pin p N = some j) (ho : pin o N = some x) (ht : pin t 4 = some k) : q_F yX10_line cX10_line 6 (some .int) 3 [.ref 89, .int p, .int o, .int t] I J (fun r I1 J1 => r = some (.int (oI (fidx x (pln (I 92) N t j) 0))) ∧ J1 = J ∧ Mr MSS I I1) := by
  have hnp := c_X10_noPerson (I := upI I 89 0 0) (J := J) (N := N) (by rw [t0_92]; exact hP.1) hP.2.1 (p := p)
  have hno := c_X10_noPerson (I := upI I 89 0 0) (J := J) (N := N) (by rw [t0_92]; exact hP.1) hP.2.1 (p := o)
  rw [hp] at hnp
  rw [ho] at hno
  have h7 := hP.2.1
  obtain ⟨hj, rfl⟩ := pin_some (by omega) hp
  obtain ⟨hx, rfl⟩ := pin_some (by omega) ho
  have htt := c_X10_noTie (I := upI I 89 0 0) (J := J) (t := t)
  rw [ht] at htt
  have hv : FP N (mpr I 92) := hP.2.2.2.2.1
  have hT : TK (mkl I 92 N t) := skl_TK h7 hv
  have hpl : pln (I 92) N t j = dft (mkl I 92 N t) (sno (mw I 92) t) 7 j := pln_dft h7 hv hj
  have hla := c_X10_layLine (I := upI I 89 0 0) (J := J) (tie := t) p92 (by rw [t0_92]; exact hP.1) h7 (by unfold mpr; rw [t0_92]; exact hv) hj
  refine q_Fi me_X10_line rfl (Nat.le_of_ble_eq_true rfl) ?_
  show q_w _ _ _ _ _ _ _ 0 [some (.ref 89), some (.int (nI j)), some (.int (nI x)), some (.int t), none, none] [] I J
  refine w_aload_n dX10_line_0 rfl ?_
  refine w_iconst (v := 0) dX10_line_1 (by decide) ?_
  refine w_putI dX10_line_2 f_X10_41 (by first | assumption | rfl) rfl ?_
  refine w_aload_n dX10_line_5 rfl ?_
  refine w_iload_n dX10_line_6 rfl ?_
  refine w_callVi dX10_line_7 k_X10_104 (by first | assumption | rfl) rfl (hnp) rfl rfl rfl (Nat.le_of_ble_eq_true rfl) (by first | decide | omega) ?_
  refine w_if_ne (tgt := 21) dX10_line_10 (by decide) (fun c_10 => absurd c_10 (fun q => q rfl)) (fun c_10 => ?_)
  refine w_aload_n dX10_line_13 rfl ?_
  refine w_iload_n dX10_line_14 rfl ?_
  refine w_callVi dX10_line_15 k_X10_104 (by first | assumption | rfl) rfl (hno) rfl rfl rfl (Nat.le_of_ble_eq_true rfl) (by first | decide | omega) ?_
  refine w_if_eq (tgt := 23) dX10_line_18 (by decide) (fun c_18 => ?_) (fun c_18 => absurd (rfl : zB false = 0) c_18)
  refine w_iload_n dX10_line_23 rfl ?_
  refine w_callSi dX10_line_24 k_X10_121 (htt) rfl rfl rfl (Nat.le_of_ble_eq_true rfl) (by first | decide | omega) ?_
  refine w_if_eq (tgt := 33) dX10_line_27 (by decide) (fun c_27 => ?_) (fun c_27 => absurd (rfl : zB false = 0) c_27)
  refine w_aload_n dX10_line_33 rfl ?_
  refine w_aload_n dX10_line_34 rfl ?_
  refine w_getR dX10_line_35 f_X10_16 (by first | assumption | rfl) rfl rfl ?_
  refine w_iload_n dX10_line_38 rfl ?_
  refine w_iload_n dX10_line_39 rfl ?_
  refine w_callVF dX10_line_40 k_X10_97 (by first | assumption | rfl) rfl (hla) rfl rfl rfl (Nat.le_of_ble_eq_true rfl) (by first | decide | omega) (fun r_40 I_40 J_40 h_40 => ?_)
  obtain ⟨rfl, rfl, hM, hR⟩ := h_40
  unfold mkl mpr mw mag at hR
  rw [t0_92] at hR
  refine w_bipush (v := (-9)) dX10_line_43 (by decide) ?_
  refine w_istore dX10_line_45 (by decide) rfl ?_
  refine w_iconst (v := 0) dX10_line_47 (by decide) ?_
  refine w_istore dX10_line_48 (by decide) rfl ?_
  rw [hpl]
  exact l_X10_line (l := dft (mkl I 92 N t) (sno (mw I 92) t) 7 j) hR (dft_nodup hT 7 j (by omega)) (dft_len hT 7 (by omega)) (fun y hy => (dft_ge hT 7 j y (by omega) hy).2) (by omega) ((Mr.rf.f (by decide)).tr (hM.mr (by decide) (by decide))) _ [] rfl
set_option maxHeartbeats 4000000 in
set_option maxRecDepth 100000 in
theorem c_X10_next_b {I : Mem} {J : Lng} {t : Int32} (ht : pin t 4 = none) : q_E yX10_next cX10_next 3 (some .int) 5 [.ref 89, .int t] I J (some (.int (-2))) (upI I 89 0 0) (J) := by
  have htt := c_X10_noTie (I := upI I 89 0 0) (J := J) (t := t)
  rw [ht] at htt
  refine q_Ei me_X10_next rfl (Nat.le_of_ble_eq_true rfl) ?_
  show q_w _ _ _ _ _ _ _ 0 [some (.ref 89), some (.int t), none] [] I J
  refine w_aload_n dX10_next_0 rfl ?_
  refine w_iconst (v := 0) dX10_next_1 (by decide) ?_
  refine w_putI dX10_next_2 f_X10_41 (by first | assumption | rfl) rfl ?_
  refine w_iload_n dX10_next_5 rfl ?_
  refine w_callSi dX10_next_6 k_X10_121 (htt) rfl rfl rfl (Nat.le_of_ble_eq_true rfl) (by first | decide | omega) ?_
  refine w_if_eq (tgt := 15) dX10_next_9 (by decide) (fun c_9 => absurd c_9 (show ¬ zB true = 0 by decide)) (fun c_9 => ?_)
  refine w_bipush (v := (-2)) dX10_next_12 (by decide) ?_
  exact w_ret dX10_next_14 ⟨rfl, rfl, rfl⟩
set_option maxHeartbeats 4000000 in
set_option maxRecDepth 100000 in
theorem l_X10_next {I : Mem} {J : Lng} {N : Nat} {t R : Int32} : ∀ (r : Nat) (f : Int32) (I1 : Mem) (m : Nat), pop m ≤ r → Mr MSS I I1 → PW (I1 93) N m → pnx N r (I1 93) m f = R → q_w yX10_next.cls yX10_next.name cX10_next 3 .ireturn 5 (fun st I2 J1 => ∃ v : Int32, st = [.int v] ∧ (some (Value.int v) = some (.int R) ∧ J1 = J ∧ Mr MSS I I2)) 28 [some (.ref 89), some (.int (t)), some (.int (f))] [] (I1) (J) := by
  intro r
  induction r with
  | zero =>
    intro f I1 m hpp hM hP hR
    have hm := p2_128 hP.2.1 hP.2.2.2.1
    have hR2 : f = R := hR
    have e : I1 93 1 = -9 := by
      rcases hP.2.2.2.2.2.1 with e | ⟨h, hh, hb, e⟩
      · exact e
      · have := hP.2.1
        exact absurd (show pop m = 0 by omega) (pop_0 m hm h (by omega) hb)
    refine w_aload_n dX10_next_28 rfl ?_
    refine w_getR dX10_next_29 f_X10_19 (by first | assumption | rfl) rfl rfl ?_
    refine w_iconst (v := 1) dX10_next_32 (by decide) ?_
    refine w_iald (j := 1) dX10_next_33 (by first | assumption | rfl) rfl rfl (by decide) (by decide) ?_
    refine w_bipush (v := (-9)) dX10_next_34 (by decide) ?_
    refine w_icmp_eq (tgt := 70) dX10_next_36 (by decide) (fun c_36 => ?_) (fun c_36 => absurd e c_36)
    refine w_iload_n dX10_next_70 rfl ?_
    exact w_ret dX10_next_71 ⟨_, rfl, by rw [hR2], rfl, hM⟩
  | succ r ih =>
    intro f I1 m hpp hM hP hR
    have hm := p2_128 hP.2.1 hP.2.2.2.1
    have h7 := hP.2.1
    unfold pnx at hR
    rcases hP.2.2.2.2.2.1 with e | ⟨h, hh, hb, e⟩
    · rw [phd_none e] at hR
      have hR2 : f = R := hR
      refine w_aload_n dX10_next_28 rfl ?_
      refine w_getR dX10_next_29 f_X10_19 (by first | assumption | rfl) rfl rfl ?_
      refine w_iconst (v := 1) dX10_next_32 (by decide) ?_
      refine w_iald (j := 1) dX10_next_33 (by first | assumption | rfl) rfl rfl (by decide) (by decide) ?_
      refine w_bipush (v := (-9)) dX10_next_34 (by decide) ?_
      refine w_icmp_eq (tgt := 70) dX10_next_36 (by decide) (fun c_36 => ?_) (fun c_36 => absurd e c_36)
      refine w_iload_n dX10_next_70 rfl ?_
      exact w_ret dX10_next_71 ⟨_, rfl, by rw [hR2], rfl, hM⟩
    · rw [phd_some (by omega) e] at hR
      have hR2 : pnx N r (pdie (I1 93) N m h) (mclr m h) (f * 10 + nI h + 1) = R := hR
      have hgd := c_X10_goDie (I := I1) (J := J) p93 hP hh
      refine w_aload_n dX10_next_28 rfl ?_
      refine w_getR dX10_next_29 f_X10_19 (by first | assumption | rfl) rfl rfl ?_
      refine w_iconst (v := 1) dX10_next_32 (by decide) ?_
      refine w_iald (j := 1) dX10_next_33 (by first | assumption | rfl) rfl rfl (by decide) (by decide) ?_
      refine w_bipush (v := (-9)) dX10_next_34 (by decide) ?_
      refine w_icmp_eq (tgt := 70) dX10_next_36 (by decide) (fun c_36 => absurd c_36 (by rw [e]; exact nI_ne9 (by omega))) (fun c_36 => ?_)
      refine w_bipush (v := 10) dX10_next_39 (by decide) ?_
      refine w_iload_n dX10_next_41 rfl ?_
      refine w_imul dX10_next_42 ?_
      refine w_aload_n dX10_next_43 rfl ?_
      refine w_getR dX10_next_44 f_X10_19 (by first | assumption | rfl) rfl rfl ?_
      refine w_iconst (v := 1) dX10_next_47 (by decide) ?_
      refine w_iald (j := 1) dX10_next_48 (by first | assumption | rfl) rfl rfl (by decide) (by decide) ?_
      rw [e, Int32.mul_comm]
      refine w_iadd dX10_next_49 ?_
      refine w_iconst (v := 1) dX10_next_50 (by decide) ?_
      refine w_iadd dX10_next_51 ?_
      refine w_istore_n dX10_next_52 (by decide) rfl ?_
      refine w_aload_n dX10_next_53 rfl ?_
      refine w_aload_n dX10_next_54 rfl ?_
      refine w_getR dX10_next_55 f_X10_19 (by first | assumption | rfl) rfl rfl ?_
      refine w_aload_n dX10_next_58 rfl ?_
      refine w_getR dX10_next_59 f_X10_19 (by first | assumption | rfl) rfl rfl ?_
      refine w_iconst (v := 1) dX10_next_62 (by decide) ?_
      refine w_iald (j := 1) dX10_next_63 (by first | assumption | rfl) rfl rfl (by decide) (by decide) ?_
      rw [e]
      refine w_callVF dX10_next_64 k_X10_115 (by first | assumption | rfl) rfl (hgd) rfl rfl rfl (Nat.le_of_ble_eq_true rfl) (by first | decide | omega) (fun r_64 I_64 J_64 h_64 => ?_)
      obtain ⟨rfl, rfl, hMD, h93⟩ := h_64
      refine w_goto (tgt := 28) dX10_next_67 (by decide) ?_
      exact ih _ I_64 (mclr m h) (by have := pop_clr m hm h (by omega) hb; omega) (hM.tr (hMD.mr (by decide) (by decide) (by decide))) (by rw [h93]; exact hP.die hb) (by rw [h93]; exact hR2)
/-- the trial is the page -/
theorem PW.cp {a b : Nat → Int32} {n m : Nat} (h : PW a n m) (e : ∀ k, k < 22 → b k = a k) : PW b n m := by
  obtain ⟨h1, h2, h3, h4, h5, h6, h7, h8, h9, h10⟩ := h
  refine ⟨by rw [e 6 (by decide)]; exact h1, h2, by rw [e 0 (by decide)]; exact h3, h4, fun p hp => ?_, by rw [e 1 (by decide)]; exact h6, by rw [e 2 (by decide)]; exact h7, by rw [e 3 (by decide)]; exact h8, by rw [e 4 (by decide)]; exact h9, by rw [e 14 (by decide)]; exact h10⟩
  have := h5 p hp
  dsimp only at this ⊢
  rw [e (7 + p) (by omega)]; exact this
/-- the trial page -/
def tpg (I : Mem) : Nat → Int32 := cpy (I 93) (I 92) 0 0 22
theorem tpg_k {I : Mem} {k : Nat} (h : k < 22) : tpg I k = I 92 k := by
  have := cpy_in (dst := I 93) (src := I 92) (d := 0) (s := 0) (k := 22) h
  rw [Nat.zero_add] at this
  exact this
set_option maxHeartbeats 4000000 in
set_option maxRecDepth 100000 in
theorem c_X10_next {I : Mem} {J : Lng} {N m : Nat} (hP : PW (I 92) N m) {t : Int32} {k : Nat} (ht : pin t 4 = some k) : q_F yX10_next cX10_next 3 (some .int) 5 [.ref 89, .int t] I J (fun r I1 J1 => r = some (.int (pnx N 7 (upd (tpg I) 2 t) m 0)) ∧ J1 = J ∧ Mr MSS I I1) := by
  have htt := c_X10_noTie (I := upI I 89 0 0) (J := J) (t := t)
  rw [ht] at htt
  have hbg := c_X10_begin (I := upI I 89 0 0) (J := J)
  rw [show (upI I 89 0 0) 93 = I 93 from t0_ne (by decide), t0_92] at hbg
  obtain ⟨hk4, htk⟩ := pin_some (by decide) ht
  refine q_Fi me_X10_next rfl (Nat.le_of_ble_eq_true rfl) ?_
  show q_w _ _ _ _ _ _ _ 0 [some (.ref 89), some (.int t), none] [] I J
  refine w_aload_n dX10_next_0 rfl ?_
  refine w_iconst (v := 0) dX10_next_1 (by decide) ?_
  refine w_putI dX10_next_2 f_X10_41 (by first | assumption | rfl) rfl ?_
  refine w_iload_n dX10_next_5 rfl ?_
  refine w_callSi dX10_next_6 k_X10_121 (htt) rfl rfl rfl (Nat.le_of_ble_eq_true rfl) (by first | decide | omega) ?_
  refine w_if_eq (tgt := 15) dX10_next_9 (by decide) (fun c_9 => ?_) (fun c_9 => absurd (rfl : zB false = 0) c_9)
  refine w_aload_n dX10_next_15 rfl ?_
  refine w_callVv dX10_next_16 k_X10_127 (by first | assumption | rfl) rfl (hbg) rfl rfl rfl (Nat.le_of_ble_eq_true rfl) (by first | decide | omega) ?_
  refine w_aload_n dX10_next_19 rfl ?_
  refine w_getR dX10_next_20 f_X10_19 (by first | assumption | rfl) rfl rfl ?_
  refine w_iconst (v := 2) dX10_next_23 (by decide) ?_
  refine w_iload_n dX10_next_24 rfl ?_
  refine w_iast (j := 2) dX10_next_25 (by first | assumption | rfl) rfl rfl (by decide) (by decide) ?_
  refine w_iconst (v := 0) dX10_next_26 (by decide) ?_
  refine w_istore_n dX10_next_27 (by decide) rfl ?_
  have h93 : (upI (upR (upI I 89 0 0) 93 (cpy (I 93) (I 92) 0 0 22)) 93 2 t) 93 = upd (tpg I) 2 t := by rw [upI_self, upR_t]; rfl
  exact l_X10_next 7 0 _ m (pop_7 m) (((Mr.rf.f (by decide)).ur (by decide) (by decide)).up (by decide) (by decide)) (by rw [h93, htk]; exact (hP.cp (fun q hq => tpg_k hq)).tie hk4) (by rw [h93])
