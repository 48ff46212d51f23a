/-- the text: n bytes -/
def TR (I : Mem) (n : Nat) : Prop := I 1 1 = nI n ∧ n ≤ 40
def zfig (l g : Int32) : Bool := !decide (l < 48) && !decide (48 + g < l)
/-- may this letter stand at this place -/
def zms (p : Nat) (l : Int32) : Bool := if p = 0 then decide (l = 84) else if p < 3 then zfig l (if p = 1 then 3 else 9) else if 7 ≤ (p - 3) / 4 then false else if (p - 3) % 4 = 0 then decide (l = 80) else if (p - 3) % 4 = 1 then zfig l (nI ((p - 3) / 4 - 1)) else if (p - 3) % 4 = 2 then zfig l 1 else zfig l 9
theorem sub3 {a : Nat} (h : 3 ≤ a) : nI a - 3 = nI (a - 3) := pk_sub (b := 3) h
theorem div4 {a : Nat} (h : a < 2 ^ 31) : nI a / 4 = nI (a / 4) := pk_div (d := 4) h (by decide) (by decide)
theorem rem4 {a : Nat} (h : a < 2 ^ 31) : nI a - nI a / 4 * 4 = nI (a % 4) := pk_rem (d := 4) h (by decide) (by decide)
theorem max0 : ∀ a, a < 7 → (if (0 : Int32) < nI a - 1 then nI a - 1 else 0) = nI (a - 1) := by decide
/-- the first fault, from k on -/
def zff (tx : Nat → Int32) (n : Nat) : Nat → Nat → Int32
  | 0, _ => if 3 ≤ n ∧ (n - 3) % 4 = 0 then -9 else nI n
  | r + 1, k => if zms k (tx k) then zff tx n r (k + 1) else nI k
set_option maxHeartbeats 4000000 in
set_option maxRecDepth 100000 in
theorem c_X8_isFigure {I : Mem} {J : Lng} {l g : Int32} : q_E yX8_isFigure cX8_isFigure 2 (some .boolean) 0 [.int l, .int g] I J (some (.int (zB (zfig l g)))) (I) (J) := by
  refine q_Ez (zB_01 _) me_X8_isFigure rfl (Nat.le_of_ble_eq_true rfl) ?_
  show q_w _ _ _ _ _ _ _ 0 [some (.int l), some (.int g)] [] I J
  refine w_iload_n dX8_isFigure_0 rfl ?_
  refine w_bipush (v := 48) dX8_isFigure_1 (by decide) ?_
  refine w_icmp_lt (tgt := 18) dX8_isFigure_3 (by decide) (fun c_3 => ?_) (fun c_3 => ?_)
  · refine w_iconst (v := 0) dX8_isFigure_18 (by decide) ?_
    refine w_ret dX8_isFigure_19 ⟨?_, rfl, rfl⟩
    first | (simp [zB_eq0, zB_t, zB_f, zfig, *]; done) | (simp_all [zB_eq0, zB_t, zB_f, zfig]; done)
  · refine w_iload_n dX8_isFigure_6 rfl ?_
    refine w_bipush (v := 48) dX8_isFigure_7 (by decide) ?_
    refine w_iload_n dX8_isFigure_9 rfl ?_
    refine w_iadd dX8_isFigure_10 ?_
    refine w_icmp_gt (tgt := 18) dX8_isFigure_11 (by decide) (fun c_11 => ?_) (fun c_11 => ?_)
    · refine w_iconst (v := 0) dX8_isFigure_18 (by decide) ?_
      refine w_ret dX8_isFigure_19 ⟨?_, rfl, rfl⟩
      first | (simp [zB_eq0, zB_t, zB_f, zfig, *]; done) | (simp_all [zB_eq0, zB_t, zB_f, zfig]; done)
    · refine w_iconst (v := 1) dX8_isFigure_14 (by decide) ?_
      refine w_goto (tgt := 19) dX8_isFigure_15 (by decide) ?_
      refine w_ret dX8_isFigure_19 ⟨?_, rfl, rfl⟩
      first | (simp [zB_eq0, zB_t, zB_f, zfig, *]; done) | (simp_all [zB_eq0, zB_t, zB_f, zfig]; done)
set_option maxHeartbeats 4000000 in
set_option maxRecDepth 100000 in
theorem c_X8_add_0 {I : Mem} {J : Lng} {n : Nat} {x : Int32} (hT : TR I n) (hn : n = 40) : q_E yX8_add cX8_add 2 (some .boolean) 0 [.ref 1, .int x] I J (some (.int (0))) (I) (J) := by
  obtain ⟨h1, h2⟩ := hT
  subst hn
  refine q_Ez (Or.inl rfl) me_X8_add rfl (Nat.le_of_ble_eq_true rfl) ?_
  show q_w _ _ _ _ _ _ _ 0 [some (.ref 1), some (.int x)] [] I J
  refine w_aload_n dX8_add_0 rfl ?_
  refine w_getI dX8_add_1 f_X8_15 (by first | assumption | rfl) rfl ?_
  refine w_if_lt (tgt := 16) dX8_add_4 (by decide) (fun c_4 => absurd c_4 (by rw [h1]; decide)) (fun c_4 => ?_)
  refine w_aload_n dX8_add_7 rfl ?_
  refine w_getI dX8_add_8 f_X8_15 (by first | assumption | rfl) rfl ?_
  refine w_bipush (v := 40) dX8_add_11 (by decide) ?_
  refine w_icmp_lt (tgt := 18) dX8_add_13 (by decide) (fun c_13 => absurd c_13 (by rw [h1]; decide)) (fun c_13 => ?_)
  refine w_iconst (v := 0) dX8_add_16 (by decide) ?_
  exact w_ret dX8_add_17 ⟨rfl, rfl, rfl⟩
set_option maxHeartbeats 4000000 in
set_option maxRecDepth 100000 in
theorem c_X8_add {I : Mem} {J : Lng} {n : Nat} {x : Int32} (hT : TR I n) (hn : n < 40) : q_E yX8_add cX8_add 2 (some .boolean) 0 [.ref 1, .int x] I J (some (.int (1))) (upI (upI I 2 n x) 1 1 (nI (n + 1))) (J) := by
  obtain ⟨h1, h2⟩ := hT
  refine q_Ez (Or.inr rfl) me_X8_add rfl (Nat.le_of_ble_eq_true rfl) ?_
  show q_w _ _ _ _ _ _ _ 0 [some (.ref 1), some (.int x)] [] I J
  refine w_aload_n dX8_add_0 rfl ?_
  refine w_getI dX8_add_1 f_X8_15 (by first | assumption | rfl) rfl ?_
  refine w_if_lt (tgt := 16) dX8_add_4 (by decide) (fun c_4 => absurd c_4 (by rw [h1]; exact nI_pos (by omega))) (fun c_4 => ?_)
  refine w_aload_n dX8_add_7 rfl ?_
  refine w_getI dX8_add_8 f_X8_15 (by first | assumption | rfl) rfl ?_
  refine w_bipush (v := 40) dX8_add_11 (by decide) ?_
  refine w_icmp_lt (tgt := 18) dX8_add_13 (by decide) (fun c_13 => ?_) (fun c_13 => absurd (by rw [h1]; exact nI_lt (b := 40) hn (by decide)) c_13)
  refine w_aload_n dX8_add_18 rfl ?_
  refine w_getR dX8_add_19 f_X8_9 (by first | assumption | rfl) rfl rfl ?_
  refine w_aload_n dX8_add_22 rfl ?_
  refine w_getI dX8_add_23 f_X8_15 (by first | assumption | rfl) rfl ?_
  refine w_iload_n dX8_add_26 rfl ?_
  refine w_iast (j := n) dX8_add_27 (by first | assumption | rfl) rfl h1 hn (by decide) ?_
  refine w_aload_n dX8_add_28 rfl ?_
  refine w_dup dX8_add_29 rfl ?_
  refine w_getI dX8_add_30 f_X8_15 (by first | assumption | rfl) rfl ?_
  refine w_iconst (v := 1) dX8_add_33 (by decide) ?_
  refine w_iadd dX8_add_34 ?_
  refine w_putI dX8_add_35 f_X8_15 (by first | assumption | rfl) rfl ?_
  refine w_iconst (v := 1) dX8_add_38 (by decide) ?_
  exact w_ret dX8_add_39 ⟨rfl, by rw [show upI I 2 n x 1 = I 1 from upI_ne (by decide), h1, nI_1], rfl⟩
set_option maxHeartbeats 4000000 in
set_option maxRecDepth 100000 in
theorem c_X8_mayStand {I : Mem} {J : Lng} {p : Nat} {l : Int32} (hp : p < 40) : q_E yX8_mayStand cX8_mayStand 3 (some .boolean) 1 [.int (nI p), .int l] I J (some (.int (zB (zms p l)))) (I) (J) := by
  refine q_Ez (zB_01 _) me_X8_mayStand rfl (Nat.le_of_ble_eq_true rfl) ?_
  show q_w _ _ _ _ _ _ _ 0 [some (.int (nI p)), some (.int l), none] [] I J
  refine w_iload_n dX8_mayStand_0 rfl ?_
  refine w_if_ne (tgt := 16) dX8_mayStand_1 (by decide) (fun c_1 => ?_) (fun c_1 => ?_)
  · have hp0 : p ≠ 0 := fun e => c_1 (by rw [e]; rfl)
    refine w_iload_n dX8_mayStand_16 rfl ?_
    refine w_iconst (v := 3) dX8_mayStand_17 (by decide) ?_
    refine w_icmp_ge (tgt := 37) dX8_mayStand_18 (by decide) (fun c_18 => ?_) (fun c_18 => ?_)
    · have hp3 : 3 ≤ p := by
        rcases Nat.lt_or_ge p 3 with q | q
        · exact absurd c_18 (nI_ge q (by decide))
        · exact q
      have hms : zms p l = if 7 ≤ (p - 3) / 4 then false else if (p - 3) % 4 = 0 then decide (l = 80) else if (p - 3) % 4 = 1 then zfig l (nI ((p - 3) / 4 - 1)) else if (p - 3) % 4 = 2 then zfig l 1 else zfig l 9 := by
        unfold zms; rw [if_neg hp0, if_neg (by omega)]
      refine w_iload_n dX8_mayStand_37 rfl ?_
      refine w_iconst (v := 3) dX8_mayStand_38 (by decide) ?_
      refine w_isub dX8_mayStand_39 ?_
      refine w_iconst (v := 4) dX8_mayStand_40 (by decide) ?_
      refine w_idiv dX8_mayStand_41 (by decide) ?_
      rw [sub3 hp3, div4 (by omega)]
      refine w_istore_n dX8_mayStand_42 (by decide) rfl ?_
      refine w_iload_n dX8_mayStand_43 rfl ?_
      refine w_bipush (v := 7) dX8_mayStand_44 (by decide) ?_
      refine w_icmp_lt (tgt := 51) dX8_mayStand_46 (by decide) (fun c_46 => ?_) (fun c_46 => ?_)
      · have h7 : (p - 3) / 4 < 7 := by
          rcases Nat.lt_or_ge ((p - 3) / 4) 7 with q | q
          · exact q
          · exact absurd c_46 (nI_nlt q (by omega))
        rw [hms, if_neg (by omega)]
        refine w_iload_n dX8_mayStand_51 rfl ?_
        refine w_iconst (v := 3) dX8_mayStand_52 (by decide) ?_
        refine w_isub dX8_mayStand_53 ?_
        refine w_iconst (v := 4) dX8_mayStand_54 (by decide) ?_
        refine w_irem dX8_mayStand_55 (by decide) ?_
        rw [sub3 hp3, rem4 (by omega)]
        have h4 : (p - 3) % 4 < 4 := Nat.mod_lt _ (by decide)
        generalize (p - 3) % 4 = v at h4 ⊢
        rcases (show v = 0 ∨ v = 1 ∨ v = 2 ∨ v = 3 by omega) with rfl | rfl | rfl | rfl
        · refine w_tableIn (tgt := 84) (off := 28) dX8_mayStand_56 (by decide) (by decide) (by decide) (by decide) ?_
          refine w_iload_n dX8_mayStand_84 rfl ?_
          refine w_bipush (v := 80) dX8_mayStand_85 (by decide) ?_
          refine w_icmp_ne (tgt := 94) dX8_mayStand_87 (by decide) (fun c_87 => ?_) (fun c_87 => ?_)
          · refine w_iconst (v := 0) dX8_mayStand_94 (by decide) ?_
            refine w_ret dX8_mayStand_95 ⟨?_, rfl, rfl⟩
            first | (have e : l = 80 := c_87; simp [e, zB_t]; done) | (have e : ¬ l = 80 := c_87; simp [e, zB_f])
          · refine w_iconst (v := 1) dX8_mayStand_90 (by decide) ?_
            refine w_goto (tgt := 95) dX8_mayStand_91 (by decide) ?_
            refine w_ret dX8_mayStand_95 ⟨?_, rfl, rfl⟩
            first | (have e : l = 80 := c_87; simp [e, zB_t]; done) | (have e : ¬ l = 80 := c_87; simp [e, zB_f])
        · refine w_tableIn (tgt := 96) (off := 40) dX8_mayStand_56 (by decide) (by decide) (by decide) (by decide) ?_
          refine w_iload_n dX8_mayStand_96 rfl ?_
          refine w_iconst (v := 0) dX8_mayStand_97 (by decide) ?_
          refine w_iload_n dX8_mayStand_98 rfl ?_
          refine w_iconst (v := 1) dX8_mayStand_99 (by decide) ?_
          refine w_isub dX8_mayStand_100 ?_
          refine w_max dX8_mayStand_101 k_X8_26 kM_max_s kM_i kM_max_c (Nat.le_of_ble_eq_true rfl) (by decide) ?_
          rw [max0 _ h7]
          refine w_callSi dX8_mayStand_104 k_X8_23 (c_X8_isFigure) rfl rfl rfl (Nat.le_of_ble_eq_true rfl) (by first | decide | omega) ?_
          refine w_ret dX8_mayStand_107 ⟨?_, rfl, rfl⟩
          rfl
        · refine w_tableIn (tgt := 108) (off := 52) dX8_mayStand_56 (by decide) (by decide) (by decide) (by decide) ?_
          refine w_iload_n dX8_mayStand_108 rfl ?_
          refine w_iconst (v := 1) dX8_mayStand_109 (by decide) ?_
          refine w_callSi dX8_mayStand_110 k_X8_23 (c_X8_isFigure) rfl rfl rfl (Nat.le_of_ble_eq_true rfl) (by first | decide | omega) ?_
          refine w_ret dX8_mayStand_113 ⟨?_, rfl, rfl⟩
          rfl
        · refine w_tableOut (tgt := 114) dX8_mayStand_56 (by decide) (by decide) ?_
          refine w_iload_n dX8_mayStand_114 rfl ?_
          refine w_bipush (v := 9) dX8_mayStand_115 (by decide) ?_
          refine w_callSi dX8_mayStand_117 k_X8_23 (c_X8_isFigure) rfl rfl rfl (Nat.le_of_ble_eq_true rfl) (by first | decide | omega) ?_
          refine w_ret dX8_mayStand_120 ⟨?_, rfl, rfl⟩
          rfl
      · have h7 : 7 ≤ (p - 3) / 4 := Nat.le_of_not_lt fun q => c_46 (nI_lt q (by decide))
        rw [hms, if_pos h7]
        refine w_iconst (v := 0) dX8_mayStand_49 (by decide) ?_
        refine w_ret dX8_mayStand_50 ⟨?_, rfl, rfl⟩
        rfl
    · have hp3 : p < 3 := Nat.lt_of_not_le fun q => c_18 (nI_le q (by omega))
      refine w_iload_n dX8_mayStand_21 rfl ?_
      refine w_iload_n dX8_mayStand_22 rfl ?_
      refine w_iconst (v := 1) dX8_mayStand_23 (by decide) ?_
      refine w_icmp_ne (tgt := 31) dX8_mayStand_24 (by decide) (fun c_24 => ?_) (fun c_24 => ?_)
      · refine w_bipush (v := 9) dX8_mayStand_31 (by decide) ?_
        refine w_callSi dX8_mayStand_33 k_X8_23 (c_X8_isFigure) rfl rfl rfl (Nat.le_of_ble_eq_true rfl) (by first | decide | omega) ?_
        refine w_ret dX8_mayStand_36 ⟨?_, rfl, rfl⟩
        have e : p ≠ 1 := fun e => c_24 (by rw [e]; rfl)
        unfold zms; rw [if_neg hp0, if_pos hp3, if_neg e]
      · refine w_iconst (v := 3) dX8_mayStand_27 (by decide) ?_
        refine w_goto (tgt := 33) dX8_mayStand_28 (by decide) ?_
        refine w_callSi dX8_mayStand_33 k_X8_23 (c_X8_isFigure) rfl rfl rfl (Nat.le_of_ble_eq_true rfl) (by first | decide | omega) ?_
        refine w_ret dX8_mayStand_36 ⟨?_, rfl, rfl⟩
        have e : p = 1 := nI_inj (by omega) (by decide) c_24
        subst e; rfl
  · have hp0 : p = 0 := nI_inj (by omega) (by decide) c_1
    subst hp0
    refine w_iload_n dX8_mayStand_4 rfl ?_
    refine w_bipush (v := 84) dX8_mayStand_5 (by decide) ?_
    refine w_icmp_ne (tgt := 14) dX8_mayStand_7 (by decide) (fun c_7 => ?_) (fun c_7 => ?_)
    · refine w_iconst (v := 0) dX8_mayStand_14 (by decide) ?_
      refine w_ret dX8_mayStand_15 ⟨?_, rfl, rfl⟩
      first | (have e : l = 84 := c_7; simp [zms, e, zB_t]; done) | (have e : ¬ l = 84 := c_7; simp [zms, e, zB_f])
    · refine w_iconst (v := 1) dX8_mayStand_10 (by decide) ?_
      refine w_goto (tgt := 15) dX8_mayStand_11 (by decide) ?_
      refine w_ret dX8_mayStand_15 ⟨?_, rfl, rfl⟩
      first | (have e : l = 84 := c_7; simp [zms, e, zB_t]; done) | (have e : ¬ l = 84 := c_7; simp [zms, e, zB_f])
set_option maxHeartbeats 4000000 in
set_option maxRecDepth 100000 in
theorem l_X8_firstFault {I : Mem} {J : Lng} {n : Nat} (hT : TR I n) : ∀ (r k : Nat), n - k = r → k ≤ n → zff (I 2) n r k = zff (I 2) n n 0 → q_w yX8_firstFault.cls yX8_firstFault.name cX8_firstFault 2 .ireturn 2 (fun st I1 J1 => st = [.int (zff (I 2) n n 0)] ∧ I1 = I ∧ J1 = J) 2 [some (.ref 1), some (.int (nI k))] [] (I) (J) := by
  obtain ⟨h1, h2⟩ := hT
  intro r
  induction r with
  | zero =>
    intro k hr hk hZ
    obtain rfl : k = n := by omega
    refine w_iload_n dX8_firstFault_2 rfl ?_
    refine w_aload_n dX8_firstFault_3 rfl ?_
    refine w_getI dX8_firstFault_4 f_X8_15 (by first | assumption | rfl) rfl ?_
    refine w_icmp_ge (tgt := 37) dX8_firstFault_7 (by decide) (fun c_7 => ?_) (fun c_7 => absurd (by rw [h1]; exact Int32.le_refl _) c_7)
    refine w_aload_n dX8_firstFault_37 rfl ?_
    refine w_getI dX8_firstFault_38 f_X8_15 (by first | assumption | rfl) rfl ?_
    refine w_iconst (v := 3) dX8_firstFault_41 (by decide) ?_
    refine w_icmp_lt (tgt := 60) dX8_firstFault_42 (by decide) (fun c_42 => ?_) (fun c_42 => ?_)
    · refine w_iconst (v := 0) dX8_firstFault_60 (by decide) ?_
      refine w_istore_n dX8_firstFault_61 (by decide) rfl ?_
      refine w_iload_n dX8_firstFault_62 rfl ?_
      refine w_if_eq (tgt := 71) dX8_firstFault_63 (by decide) (fun c_63 => ?_) (fun c_63 => absurd (rfl : (0 : Int32) = 0) c_63)
      refine w_aload_n dX8_firstFault_71 rfl ?_
      refine w_getI dX8_firstFault_72 f_X8_15 (by first | assumption | rfl) rfl ?_
      refine w_ret dX8_firstFault_75 ⟨?_, rfl, rfl⟩
      rw [← hZ]
      have h3 : k < 3 := by
        rw [h1] at c_42
        exact Nat.lt_of_not_le fun q => absurd c_42 (nI_nlt (b := 3) q (by omega))
      rw [h1]; show [Value.int (nI k)] = [Value.int (if _ then _ else _)]; rw [if_neg (by omega)]
    · have h3 : 3 ≤ k := by
        rw [h1] at c_42
        rcases Nat.lt_or_ge k 3 with q | q
        · exact absurd (nI_lt (b := 3) q (by decide)) c_42
        · exact q
      refine w_aload_n dX8_firstFault_45 rfl ?_
      refine w_getI dX8_firstFault_46 f_X8_15 (by first | assumption | rfl) rfl ?_
      refine w_iconst (v := 3) dX8_firstFault_49 (by decide) ?_
      refine w_isub dX8_firstFault_50 ?_
      refine w_iconst (v := 4) dX8_firstFault_51 (by decide) ?_
      refine w_irem dX8_firstFault_52 (by decide) ?_
      rw [h1, sub3 h3, rem4 (by omega)]
      refine w_if_ne (tgt := 60) dX8_firstFault_53 (by decide) (fun c_53 => ?_) (fun c_53 => ?_)
      · refine w_iconst (v := 0) dX8_firstFault_60 (by decide) ?_
        refine w_istore_n dX8_firstFault_61 (by decide) rfl ?_
        refine w_iload_n dX8_firstFault_62 rfl ?_
        refine w_if_eq (tgt := 71) dX8_firstFault_63 (by decide) (fun c_63 => ?_) (fun c_63 => absurd (rfl : (0 : Int32) = 0) c_63)
        refine w_aload_n dX8_firstFault_71 rfl ?_
        refine w_getI dX8_firstFault_72 f_X8_15 (by first | assumption | rfl) rfl ?_
        refine w_ret dX8_firstFault_75 ⟨?_, rfl, rfl⟩
        rw [← hZ]
        have h4 : (k - 3) % 4 ≠ 0 := fun e => c_53 (by rw [e]; rfl)
        rw [h1]; show [Value.int (nI k)] = [Value.int (if _ then _ else _)]; rw [if_neg (by omega)]
      · refine w_iconst (v := 1) dX8_firstFault_56 (by decide) ?_
        refine w_goto (tgt := 61) dX8_firstFault_57 (by decide) ?_
        refine w_istore_n dX8_firstFault_61 (by decide) rfl ?_
        refine w_iload_n dX8_firstFault_62 rfl ?_
        refine w_if_eq (tgt := 71) dX8_firstFault_63 (by decide) (fun c_63 => absurd c_63 (by decide)) (fun c_63 => ?_)
        refine w_bipush (v := (-9)) dX8_firstFault_66 (by decide) ?_
        refine w_goto (tgt := 75) dX8_firstFault_68 (by decide) ?_
        refine w_ret dX8_firstFault_75 ⟨?_, rfl, rfl⟩
        rw [← hZ]
        have h4 : (k - 3) % 4 = 0 := nI_inj (by omega) (by decide) c_53
        show [Value.int (-9)] = [Value.int (if _ then _ else _)]; rw [if_pos ⟨h3, h4⟩]
  | succ r ih =>
    intro k hr hk hZ
    have hkn : k < n := by omega
    have hZ2 : (if zms k (I 2 k) = true then zff (I 2) n r (k + 1) else nI k) = zff (I 2) n n 0 := hZ
    refine w_iload_n dX8_firstFault_2 rfl ?_
    refine w_aload_n dX8_firstFault_3 rfl ?_
    refine w_getI dX8_firstFault_4 f_X8_15 (by first | assumption | rfl) rfl ?_
    refine w_icmp_ge (tgt := 37) dX8_firstFault_7 (by decide) (fun c_7 => absurd c_7 (by rw [h1]; exact nI_ge hkn (by omega))) (fun c_7 => ?_)
    refine w_iload_n dX8_firstFault_10 rfl ?_
    refine w_bipush (v := 40) dX8_firstFault_11 (by decide) ?_
    refine w_icmp_ge (tgt := 37) dX8_firstFault_13 (by decide) (fun c_13 => absurd c_13 (nI_ge (b := 40) (by omega) (by decide))) (fun c_13 => ?_)
    refine w_iload_n dX8_firstFault_16 rfl ?_
    refine w_aload_n dX8_firstFault_17 rfl ?_
    refine w_getR dX8_firstFault_18 f_X8_9 (by first | assumption | rfl) rfl rfl ?_
    refine w_iload_n dX8_firstFault_21 rfl ?_
    refine w_iald (j := k) dX8_firstFault_22 (by first | assumption | rfl) rfl rfl (show k < 40 by omega) (by decide) ?_
    refine w_callSi dX8_firstFault_23 k_X8_19 (c_X8_mayStand (show k < 40 by omega)) rfl rfl rfl (Nat.le_of_ble_eq_true rfl) (by first | decide | omega) ?_
    refine w_if_ne (tgt := 31) dX8_firstFault_26 (by decide) (fun c_26 => ?_) (fun c_26 => ?_)
    · refine w_iincv (c := 1) dX8_firstFault_31 (by decide) rfl (by decide) rfl ?_
      refine w_goto (tgt := 2) dX8_firstFault_34 (by decide) ?_
      have e : zms k (I 2 k) = true := by simpa [zB_eq0] using c_26
      rw [if_pos e] at hZ2
      rw [nI_1]
      exact ih (k + 1) (by omega) (by omega) hZ2
    · refine w_iload_n dX8_firstFault_29 rfl ?_
      refine w_ret dX8_firstFault_30 ⟨?_, rfl, rfl⟩
      have e : zms k (I 2 k) = false := zB_eq0.mp c_26
      rw [← hZ2, e]; rfl
set_option maxHeartbeats 4000000 in
set_option maxRecDepth 100000 in
theorem c_X8_firstFault {I : Mem} {J : Lng} {n : Nat} (hT : TR I n) : q_E yX8_firstFault cX8_firstFault 2 (some .int) 2 [.ref 1] I J (some (.int (zff (I 2) n n 0))) (I) (J) := by
  refine q_Ei me_X8_firstFault rfl (Nat.le_of_ble_eq_true rfl) ?_
  show q_w _ _ _ _ _ _ _ 0 [some (.ref 1), none] [] I J
  refine w_iconst (v := 0) dX8_firstFault_0 (by decide) ?_
  refine w_istore_n dX8_firstFault_1 (by decide) rfl ?_
  exact l_X8_firstFault hT n 0 (by omega) (Nat.zero_le _) rfl
set_option maxHeartbeats 4000000 in
set_option maxRecDepth 100000 in
theorem c_X8_figureAt {I : Mem} {J : Lng} {p : Nat} (hp : p < 40) : q_E yX8_figureAt cX8_figureAt 2 (some .int) 0 [.ref 1, .int (nI p)] I J (some (.int (I 2 p - 48))) (I) (J) := by
  refine q_Ei me_X8_figureAt rfl (Nat.le_of_ble_eq_true rfl) ?_
  show q_w _ _ _ _ _ _ _ 0 [some (.ref 1), some (.int (nI p))] [] I J
  refine w_iload_n dX8_figureAt_0 rfl ?_
  refine w_if_lt (tgt := 22) dX8_figureAt_1 (by decide) (fun c_1 => absurd c_1 (nI_pos (by omega))) (fun c_1 => ?_)
  refine w_iload_n dX8_figureAt_4 rfl ?_
  refine w_bipush (v := 40) dX8_figureAt_5 (by decide) ?_
  refine w_icmp_ge (tgt := 22) dX8_figureAt_7 (by decide) (fun c_7 => absurd c_7 (nI_ge (b := 40) hp (by decide))) (fun c_7 => ?_)
  refine w_aload_n dX8_figureAt_10 rfl ?_
  refine w_getR dX8_figureAt_11 f_X8_9 (by first | assumption | rfl) rfl rfl ?_
  refine w_iload_n dX8_figureAt_14 rfl ?_
  refine w_iald (j := p) dX8_figureAt_15 (by first | assumption | rfl) rfl rfl hp (by decide) ?_
  refine w_bipush (v := 48) dX8_figureAt_16 (by decide) ?_
  refine w_isub dX8_figureAt_18 ?_
  refine w_goto (tgt := 23) dX8_figureAt_19 (by decide) ?_
  exact w_ret dX8_figureAt_23 ⟨rfl, rfl, rfl⟩
