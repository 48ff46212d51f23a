set_option maxHeartbeats 4000000 in
set_option maxRecDepth 100000 in
theorem c_X10_about {I : Mem} {J : Lng} {w : Int32} : q_E yX10_about cX10_about 2 (some .int) 0 [.ref 89, .int w] I J (some (.int (vAbout (I 92) (I 89 11) (I 89 2) w))) (upI I 89 0 0) (J) := by
  refine q_Ei me_X10_about rfl (Nat.le_of_ble_eq_true rfl) ?_
  show q_w _ _ _ _ _ _ _ 0 [some (.ref 89), some (.int w)] [] I J
  refine w_aload_n dX10_about_0 rfl ?_
  refine w_iconst (v := 0) dX10_about_1 (by decide) ?_
  refine w_putI dX10_about_2 f_X10_41 (by first | assumption | rfl) rfl ?_
  refine w_iload_n dX10_about_5 rfl ?_
  unfold vAbout
  rcases hw : pin w 9 with _ | k
  · refine w_tableOut (tgt := 116) dX10_about_6 (by have := pin_none hw; omega) (by decide) ?_
    refine w_bipush (v := (-2)) dX10_about_116 (by decide) ?_
    exact w_ret dX10_about_118 ⟨rfl, rfl, rfl⟩
  obtain ⟨hk, rfl⟩ := pin_some (by decide) hw
  clear hw
  rcases (show k = 0 ∨ k = 1 ∨ k = 2 ∨ k = 3 ∨ k = 4 ∨ k = 5 ∨ k = 6 ∨ k = 7 ∨ k = 8 by omega) with rfl | rfl | rfl | rfl | rfl | rfl | rfl | rfl | rfl
  · refine w_tableIn (tgt := 56) (off := 50) dX10_about_6 (by decide) (by decide) (by decide) (by decide) ?_
    refine w_aload_n dX10_about_56 rfl ?_
    refine w_getR dX10_about_57 f_X10_16 (by first | assumption | rfl) rfl rfl ?_
    refine w_bipush (v := 6) dX10_about_60 (by decide) ?_
    refine w_iald (j := 6) dX10_about_62 (by first | assumption | rfl) rfl rfl (by decide) (by decide) ?_
    exact w_ret dX10_about_63 ⟨rfl, rfl, rfl⟩
  · refine w_tableIn (tgt := 64) (off := 58) dX10_about_6 (by decide) (by decide) (by decide) (by decide) ?_
    refine w_aload_n dX10_about_64 rfl ?_
    refine w_getR dX10_about_65 f_X10_16 (by first | assumption | rfl) rfl rfl ?_
    refine w_iconst (v := 0) dX10_about_68 (by decide) ?_
    refine w_iald (j := 0) dX10_about_69 (by first | assumption | rfl) rfl rfl (by decide) (by decide) ?_
    exact w_ret dX10_about_70 ⟨rfl, rfl, rfl⟩
  · refine w_tableIn (tgt := 71) (off := 65) dX10_about_6 (by decide) (by decide) (by decide) (by decide) ?_
    refine w_aload_n dX10_about_71 rfl ?_
    refine w_getR dX10_about_72 f_X10_16 (by first | assumption | rfl) rfl rfl ?_
    refine w_iconst (v := 1) dX10_about_75 (by decide) ?_
    refine w_iald (j := 1) dX10_about_76 (by first | assumption | rfl) rfl rfl (by decide) (by decide) ?_
    exact w_ret dX10_about_77 ⟨rfl, rfl, rfl⟩
  · refine w_tableIn (tgt := 78) (off := 72) dX10_about_6 (by decide) (by decide) (by decide) (by decide) ?_
    refine w_aload_n dX10_about_78 rfl ?_
    refine w_getR dX10_about_79 f_X10_16 (by first | assumption | rfl) rfl rfl ?_
    refine w_iconst (v := 2) dX10_about_82 (by decide) ?_
    refine w_iald (j := 2) dX10_about_83 (by first | assumption | rfl) rfl rfl (by decide) (by decide) ?_
    exact w_ret dX10_about_84 ⟨rfl, rfl, rfl⟩
  · refine w_tableIn (tgt := 85) (off := 79) dX10_about_6 (by decide) (by decide) (by decide) (by decide) ?_
    refine w_aload_n dX10_about_85 rfl ?_
    refine w_getR dX10_about_86 f_X10_16 (by first | assumption | rfl) rfl rfl ?_
    refine w_iconst (v := 3) dX10_about_89 (by decide) ?_
    refine w_iald (j := 3) dX10_about_90 (by first | assumption | rfl) rfl rfl (by decide) (by decide) ?_
    exact w_ret dX10_about_91 ⟨rfl, rfl, rfl⟩
  · refine w_tableIn (tgt := 92) (off := 86) dX10_about_6 (by decide) (by decide) (by decide) (by decide) ?_
    refine w_aload_n dX10_about_92 rfl ?_
    refine w_getR dX10_about_93 f_X10_16 (by first | assumption | rfl) rfl rfl ?_
    refine w_iconst (v := 4) dX10_about_96 (by decide) ?_
    refine w_iald (j := 4) dX10_about_97 (by first | assumption | rfl) rfl rfl (by decide) (by decide) ?_
    exact w_ret dX10_about_98 ⟨rfl, rfl, rfl⟩
  · refine w_tableIn (tgt := 99) (off := 93) dX10_about_6 (by decide) (by decide) (by decide) (by decide) ?_
    refine w_aload_n dX10_about_99 rfl ?_
    refine w_getR dX10_about_100 f_X10_16 (by first | assumption | rfl) rfl rfl ?_
    refine w_iconst (v := 5) dX10_about_103 (by decide) ?_
    refine w_iald (j := 5) dX10_about_104 (by first | assumption | rfl) rfl rfl (by decide) (by decide) ?_
    exact w_ret dX10_about_105 ⟨rfl, rfl, rfl⟩
  · refine w_tableIn (tgt := 106) (off := 100) dX10_about_6 (by decide) (by decide) (by decide) (by decide) ?_
    refine w_aload_n dX10_about_106 rfl ?_
    refine w_getI dX10_about_107 f_X10_79 (by first | assumption | rfl) rfl ?_
    exact w_ret dX10_about_110 ⟨rfl, rfl, rfl⟩
  · refine w_tableIn (tgt := 111) (off := 105) dX10_about_6 (by decide) (by decide) (by decide) (by decide) ?_
    refine w_aload_n dX10_about_111 rfl ?_
    refine w_getI dX10_about_112 f_X10_53 (by first | assumption | rfl) rfl ?_
    exact w_ret dX10_about_115 ⟨rfl, rfl, rfl⟩
theorem mI_and1 : ∀ m, m < 128 → ∀ c, c < 7 → (nI m >>> (nI c &&& 31)) &&& 1 = zB (m.testBit c) := by decide +kernel
set_option maxHeartbeats 4000000 in
set_option maxRecDepth 100000 in
theorem c_X10_person_u {I : Mem} {J : Lng} {N m : Nat} (hP : PW (I 92) N m) {p w : Int32} (hp : pin p N = none) : q_E yX10_person cX10_person 3 (some .int) 2 [.ref 89, .int p, .int w] I J (some (.int (-1))) (upI I 89 0 0) (J) := by
  have hnp := c_X10_noPerson (I := upI I 89 0 0) (J := J) (N := N) (by rw [t0_92]; exact hP.1) hP.2.1 (p := p)
  rw [hp] at hnp
  refine q_Ei me_X10_person rfl (Nat.le_of_ble_eq_true rfl) ?_
  show q_w _ _ _ _ _ _ _ 0 [some (.ref 89), some (.int p), some (.int w)] [] I J
  refine w_aload_n dX10_person_0 rfl ?_
  refine w_iconst (v := 0) dX10_person_1 (by decide) ?_
  refine w_putI dX10_person_2 f_X10_41 (by first | assumption | rfl) rfl ?_
  refine w_aload_n dX10_person_5 rfl ?_
  refine w_iload_n dX10_person_6 rfl ?_
  refine w_callVi dX10_person_7 k_X10_104 (by first | assumption | rfl) rfl (hnp) rfl rfl rfl (Nat.le_of_ble_eq_true rfl) (by first | decide | omega) ?_
  refine w_if_eq (tgt := 15) dX10_person_10 (by decide) (fun c_10 => absurd c_10 (show ¬ zB true = 0 by decide)) (fun c_10 => ?_)
  refine w_iconst (v := (-1)) dX10_person_13 (by decide) ?_
  exact w_ret dX10_person_14 ⟨rfl, rfl, rfl⟩
set_option maxHeartbeats 4000000 in
set_option maxRecDepth 100000 in
theorem c_X10_person {I : Mem} {J : Lng} {N m : Nat} (hP : PW (I 92) N m) {p w : Int32} {j : Nat} (hp : pin p N = some j) : q_E yX10_person cX10_person 3 (some .int) 2 [.ref 89, .int p, .int w] I J (some (.int (vPerson (I 92) N m j w))) (upI I 89 0 0) (J) := by
  have hnp := c_X10_noPerson (I := upI I 89 0 0) (J := J) (N := N) (by rw [t0_92]; exact hP.1) hP.2.1 (p := p)
  rw [hp] at hnp
  have h7 := hP.2.1
  obtain ⟨hj, rfl⟩ := pin_some (by omega) hp
  have hm := p2_128 h7 hP.2.2.2.1
  have h0 : I 92 0 = nI m := hP.2.2.1
  obtain ⟨v, hv, h14⟩ := hP.2.2.2.2.2.2.2.2.2
  have hv7 := p2_128 h7 hv
  have hch := c_X10_childrenOf (I := upI I 89 0 0) (J := J) p92 (by rw [t0_92]; exact hP.1) h7 (q := nI j)
  rw [t0_92] at hch
  have hpw : pw (I 92) j = v.testBit j := by unfold pw; rw [h14]; exact mI_bit v hv7 j (by omega)
  refine q_Ei me_X10_person rfl (Nat.le_of_ble_eq_true rfl) ?_
  show q_w _ _ _ _ _ _ _ 0 [some (.ref 89), some (.int (nI j)), some (.int w)] [] I J
  refine w_aload_n dX10_person_0 rfl ?_
  refine w_iconst (v := 0) dX10_person_1 (by decide) ?_
  refine w_putI dX10_person_2 f_X10_41 (by first | assumption | rfl) rfl ?_
  refine w_aload_n dX10_person_5 rfl ?_
  refine w_iload_n dX10_person_6 rfl ?_
  refine w_callVi dX10_person_7 k_X10_104 (by first | assumption | rfl) rfl (hnp) rfl rfl rfl (Nat.le_of_ble_eq_true rfl) (by first | decide | omega) ?_
  refine w_if_eq (tgt := 15) dX10_person_10 (by decide) (fun c_10 => ?_) (fun c_10 => absurd (rfl : zB false = 0) c_10)
  refine w_iload_n dX10_person_15 rfl ?_
  unfold vPerson
  rcases hw : pin w 5 with _ | k
  · refine w_tableOut (tgt := 105) dX10_person_16 (by have := pin_none hw; omega) (by decide) ?_
    refine w_bipush (v := (-2)) dX10_person_105 (by decide) ?_
    exact w_ret dX10_person_107 ⟨rfl, rfl, rfl⟩
  obtain ⟨hk, rfl⟩ := pin_some (by decide) hw
  clear hw
  rcases (show k = 0 ∨ k = 1 ∨ k = 2 ∨ k = 3 ∨ k = 4 by omega) with rfl | rfl | rfl | rfl | rfl
  · refine w_tableIn (tgt := 52) (off := 36) dX10_person_16 (by decide) (by decide) (by decide) (by decide) ?_
    refine w_aload_n dX10_person_52 rfl ?_
    refine w_getR dX10_person_53 f_X10_16 (by first | assumption | rfl) rfl rfl ?_
    refine w_bipush (v := 7) dX10_person_56 (by decide) ?_
    refine w_iload_n dX10_person_58 rfl ?_
    refine w_iadd dX10_person_59 ?_
    refine w_iald (j := (7 + j)) dX10_person_60 (by first | assumption | rfl) rfl ix_7 (show 7 + j < 22 by omega) (by decide) ?_
    rw [t0_92]
    exact w_ret dX10_person_61 ⟨rfl, rfl, rfl⟩
  · refine w_tableIn (tgt := 62) (off := 46) dX10_person_16 (by decide) (by decide) (by decide) (by decide) ?_
    refine w_aload_n dX10_person_62 rfl ?_
    refine w_getR dX10_person_63 f_X10_16 (by first | assumption | rfl) rfl rfl ?_
    refine w_bipush (v := 14) dX10_person_66 (by decide) ?_
    refine w_iald (j := 14) dX10_person_68 (by first | assumption | rfl) rfl rfl (by decide) (by decide) ?_
    rw [t0_92, h14]
    refine w_iload_n dX10_person_69 rfl ?_
    refine w_ishr dX10_person_70 ?_
    refine w_iconst (v := 1) dX10_person_71 (by decide) ?_
    refine w_iand dX10_person_72 ?_
    exact w_ret dX10_person_73 ⟨by rw [mI_and1 v hv7 j (by omega), ← hpw]; rfl, rfl, rfl⟩
  · refine w_tableIn (tgt := 74) (off := 58) dX10_person_16 (by decide) (by decide) (by decide) (by decide) ?_
    refine w_aload_n dX10_person_74 rfl ?_
    refine w_getR dX10_person_75 f_X10_16 (by first | assumption | rfl) rfl rfl ?_
    refine w_bipush (v := 15) dX10_person_78 (by decide) ?_
    refine w_iload_n dX10_person_80 rfl ?_
    refine w_iadd dX10_person_81 ?_
    refine w_iald (j := (15 + j)) dX10_person_82 (by first | assumption | rfl) rfl ix_15 (show 15 + j < 22 by omega) (by decide) ?_
    rw [t0_92]
    exact w_ret dX10_person_83 ⟨rfl, rfl, rfl⟩
  · refine w_tableIn (tgt := 84) (off := 68) dX10_person_16 (by decide) (by decide) (by decide) (by decide) ?_
    refine w_aload_n dX10_person_84 rfl ?_
    refine w_getR dX10_person_85 f_X10_16 (by first | assumption | rfl) rfl rfl ?_
    refine w_iconst (v := 0) dX10_person_88 (by decide) ?_
    refine w_iald (j := 0) dX10_person_89 (by first | assumption | rfl) rfl rfl (by decide) (by decide) ?_
    rw [t0_92, h0]
    refine w_iload_n dX10_person_90 rfl ?_
    refine w_ishr dX10_person_91 ?_
    refine w_iconst (v := 1) dX10_person_92 (by decide) ?_
    refine w_iand dX10_person_93 ?_
    exact w_ret dX10_person_94 ⟨by rw [mI_and1 m hm j (by omega)]; rfl, rfl, rfl⟩
  · refine w_tableIn (tgt := 95) (off := 79) dX10_person_16 (by decide) (by decide) (by decide) (by decide) ?_
    refine w_aload_n dX10_person_95 rfl ?_
    refine w_aload_n dX10_person_96 rfl ?_
    refine w_getR dX10_person_97 f_X10_16 (by first | assumption | rfl) rfl rfl ?_
    refine w_iload_n dX10_person_100 rfl ?_
    refine w_callVi dX10_person_101 k_X10_89 (by first | assumption | rfl) rfl (hch) rfl rfl rfl (Nat.le_of_ble_eq_true rfl) (by first | decide | omega) ?_
    exact w_ret dX10_person_104 ⟨rfl, rfl, rfl⟩
set_option maxHeartbeats 4000000 in
set_option maxRecDepth 100000 in
theorem c_X10_isOfAge {I : Mem} {J : Lng} {N m : Nat} (hP : PW (I 92) N m) : q_F yX10_isOfAge cX10_isOfAge 2 (some .boolean) 4 [.ref 89] I J (fun r I1 J1 => r = some (.int (zB (pchild (I 92) N m))) ∧ J1 = J ∧ ML I I1) := by
  have h7 := hP.2.1
  have hm := p2_128 h7 hP.2.2.2.1
  refine q_Fz me_X10_isOfAge rfl (Nat.le_of_ble_eq_true rfl) ?_
  show q_w _ _ _ _ _ _ _ 0 [some (.ref 89), none] [] I J
  rcases hP.2.2.2.2.2.1 with e | ⟨h, hh, hb, e⟩
  · have hpc : pchild (I 92) N m = false := by unfold pchild; rw [phd_none e]
    refine w_aload_n dX10_isOfAge_0 rfl ?_
    refine w_getR dX10_isOfAge_1 f_X10_16 (by first | assumption | rfl) rfl rfl ?_
    refine w_iconst (v := 1) dX10_isOfAge_4 (by decide) ?_
    refine w_iald (j := 1) dX10_isOfAge_5 (by first | assumption | rfl) rfl rfl (by decide) (by decide) ?_
    refine w_bipush (v := (-9)) dX10_isOfAge_6 (by decide) ?_
    refine w_icmp_ne (tgt := 13) dX10_isOfAge_8 (by decide) (fun c_8 => absurd c_8 (fun q => q e)) (fun c_8 => ?_)
    refine w_iconst (v := 0) dX10_isOfAge_11 (by decide) ?_
    exact w_ret dX10_isOfAge_12 ⟨0, Or.inl rfl, rfl, by rw [hpc]; rfl, rfl, ML.rf⟩
  · have hhe := c_X10_heirOf (I := I) (J := J) p92 hP.1 h7 hP.2.2.2.2.1 hP.2.2.1 hm (tie := I 92 2) hh
    have hpc : pchild (I 92) N m = match phr (I 92) N (I 92 2) h m with
      | none => false
      | some x => decide (I 92 (7 + x) = nI h) && !decide (I 92 (15 + x) < 2) := by unfold pchild; rw [phd_some (by omega) e]; rfl
    cases hx : phr (I 92) N (I 92 2) h m with
    | none =>
      rw [hx] at hhe hpc
      dsimp only at hpc
      refine w_aload_n dX10_isOfAge_0 rfl ?_
      refine w_getR dX10_isOfAge_1 f_X10_16 (by first | assumption | rfl) rfl rfl ?_
      refine w_iconst (v := 1) dX10_isOfAge_4 (by decide) ?_
      refine w_iald (j := 1) dX10_isOfAge_5 (by first | assumption | rfl) rfl rfl (by decide) (by decide) ?_
      refine w_bipush (v := (-9)) dX10_isOfAge_6 (by decide) ?_
      refine w_icmp_ne (tgt := 13) dX10_isOfAge_8 (by decide) (fun c_8 => ?_) (fun c_8 => absurd c_8 (by rw [e]; exact nI_ne9 (by omega)))
      refine w_aload_n dX10_isOfAge_13 rfl ?_
      refine w_aload_n dX10_isOfAge_14 rfl ?_
      refine w_getR dX10_isOfAge_15 f_X10_16 (by first | assumption | rfl) rfl rfl ?_
      refine w_aload_n dX10_isOfAge_18 rfl ?_
      refine w_getR dX10_isOfAge_19 f_X10_16 (by first | assumption | rfl) rfl rfl ?_
      refine w_iconst (v := 1) dX10_isOfAge_22 (by decide) ?_
      refine w_iald (j := 1) dX10_isOfAge_23 (by first | assumption | rfl) rfl rfl (by decide) (by decide) ?_
      rw [e]
      refine w_aload_n dX10_isOfAge_24 rfl ?_
      refine w_getR dX10_isOfAge_25 f_X10_16 (by first | assumption | rfl) rfl rfl ?_
      refine w_iconst (v := 2) dX10_isOfAge_28 (by decide) ?_
      refine w_iald (j := 2) dX10_isOfAge_29 (by first | assumption | rfl) rfl rfl (by decide) (by decide) ?_
      refine w_callVF dX10_isOfAge_30 k_X10_108 (by first | assumption | rfl) rfl (hhe) rfl rfl rfl (Nat.le_of_ble_eq_true rfl) (by first | decide | omega) (fun r_30 I_30 J_30 h_30 => ?_)
      obtain ⟨rfl, rfl, hM⟩ := h_30
      refine w_istore_n dX10_isOfAge_33 (by decide) rfl ?_
      refine w_iload_n dX10_isOfAge_34 rfl ?_
      refine w_bipush (v := (-9)) dX10_isOfAge_35 (by decide) ?_
      refine w_icmp_eq (tgt := 75) dX10_isOfAge_37 (by decide) (fun c_37 => ?_) (fun c_37 => absurd (rfl : oI none = -9) c_37)
      refine w_iconst (v := 0) dX10_isOfAge_75 (by decide) ?_
      exact w_ret dX10_isOfAge_76 ⟨0, Or.inl rfl, rfl, by rw [hpc]; rfl, rfl, hM⟩
    | some x =>
      rw [hx] at hhe hpc
      dsimp only at hpc
      have hxN : x < N := p2_bit hP.2.2.2.1 (by have := List.find?_some hx; exact this)
      refine w_aload_n dX10_isOfAge_0 rfl ?_
      refine w_getR dX10_isOfAge_1 f_X10_16 (by first | assumption | rfl) rfl rfl ?_
      refine w_iconst (v := 1) dX10_isOfAge_4 (by decide) ?_
      refine w_iald (j := 1) dX10_isOfAge_5 (by first | assumption | rfl) rfl rfl (by decide) (by decide) ?_
      refine w_bipush (v := (-9)) dX10_isOfAge_6 (by decide) ?_
      refine w_icmp_ne (tgt := 13) dX10_isOfAge_8 (by decide) (fun c_8 => ?_) (fun c_8 => absurd c_8 (by rw [e]; exact nI_ne9 (by omega)))
      refine w_aload_n dX10_isOfAge_13 rfl ?_
      refine w_aload_n dX10_isOfAge_14 rfl ?_
      refine w_getR dX10_isOfAge_15 f_X10_16 (by first | assumption | rfl) rfl rfl ?_
      refine w_aload_n dX10_isOfAge_18 rfl ?_
      refine w_getR dX10_isOfAge_19 f_X10_16 (by first | assumption | rfl) rfl rfl ?_
      refine w_iconst (v := 1) dX10_isOfAge_22 (by decide) ?_
      refine w_iald (j := 1) dX10_isOfAge_23 (by first | assumption | rfl) rfl rfl (by decide) (by decide) ?_
      rw [e]
      refine w_aload_n dX10_isOfAge_24 rfl ?_
      refine w_getR dX10_isOfAge_25 f_X10_16 (by first | assumption | rfl) rfl rfl ?_
      refine w_iconst (v := 2) dX10_isOfAge_28 (by decide) ?_
      refine w_iald (j := 2) dX10_isOfAge_29 (by first | assumption | rfl) rfl rfl (by decide) (by decide) ?_
      refine w_callVF dX10_isOfAge_30 k_X10_108 (by first | assumption | rfl) rfl (hhe) rfl rfl rfl (Nat.le_of_ble_eq_true rfl) (by first | decide | omega) (fun r_30 I_30 J_30 h_30 => ?_)
      obtain ⟨rfl, rfl, hM⟩ := h_30
      refine w_istore_n dX10_isOfAge_33 (by decide) rfl ?_
      refine w_iload_n dX10_isOfAge_34 rfl ?_
      refine w_bipush (v := (-9)) dX10_isOfAge_35 (by decide) ?_
      refine w_icmp_eq (tgt := 75) dX10_isOfAge_37 (by decide) (fun c_37 => absurd c_37 (nI_ne9 (by omega))) (fun c_37 => ?_)
      refine w_aload_n dX10_isOfAge_40 rfl ?_
      refine w_getR dX10_isOfAge_41 f_X10_16 (by first | assumption | rfl) rfl rfl ?_
      refine w_bipush (v := 7) dX10_isOfAge_44 (by decide) ?_
      refine w_iload_n dX10_isOfAge_46 rfl ?_
      refine w_iadd dX10_isOfAge_47 ?_
      refine w_iald (j := (7 + x)) dX10_isOfAge_48 (by first | assumption | rfl) rfl ix_7 (show 7 + x < 22 by omega) (by decide) ?_
      refine w_aload_n dX10_isOfAge_49 rfl ?_
      refine w_getR dX10_isOfAge_50 f_X10_16 (by first | assumption | rfl) rfl rfl ?_
      refine w_iconst (v := 1) dX10_isOfAge_53 (by decide) ?_
      refine w_iald (j := 1) dX10_isOfAge_54 (by first | assumption | rfl) rfl rfl (by decide) (by decide) ?_
      rw [hM.pg p92, e]
      refine w_icmp_ne (tgt := 75) dX10_isOfAge_55 (by decide) (fun c_55 => ?_) (fun c_55 => ?_)
      · refine w_iconst (v := 0) dX10_isOfAge_75 (by decide) ?_
        exact w_ret dX10_isOfAge_76 ⟨0, Or.inl rfl, rfl, by rw [hpc, show decide (I 92 (7 + x) = nI h) = false by simpa using c_55]; rfl, rfl, hM⟩
      · refine w_aload_n dX10_isOfAge_58 rfl ?_
        refine w_getR dX10_isOfAge_59 f_X10_16 (by first | assumption | rfl) rfl rfl ?_
        refine w_bipush (v := 15) dX10_isOfAge_62 (by decide) ?_
        refine w_iload_n dX10_isOfAge_64 rfl ?_
        refine w_iadd dX10_isOfAge_65 ?_
        refine w_iald (j := (15 + x)) dX10_isOfAge_66 (by first | assumption | rfl) rfl ix_15 (show 15 + x < 22 by omega) (by decide) ?_
        rw [hM.pg p92]
        refine w_iconst (v := 2) dX10_isOfAge_67 (by decide) ?_
        refine w_icmp_lt (tgt := 75) dX10_isOfAge_68 (by decide) (fun c_68 => ?_) (fun c_68 => ?_)
        · refine w_iconst (v := 0) dX10_isOfAge_75 (by decide) ?_
          exact w_ret dX10_isOfAge_76 ⟨0, Or.inl rfl, rfl, by rw [hpc, show decide (I 92 (15 + x) < 2) = true by simpa using c_68, Bool.not_true, Bool.and_false]; rfl, rfl, hM⟩
        · refine w_iconst (v := 1) dX10_isOfAge_71 (by decide) ?_
          refine w_goto (tgt := 76) dX10_isOfAge_72 (by decide) ?_
          exact w_ret dX10_isOfAge_76 ⟨1, Or.inr rfl, rfl, by rw [hpc, show decide (I 92 (15 + x) < 2) = false by simpa using c_68, show decide (I 92 (7 + x) = nI h) = true by simpa using c_55]; rfl, rfl, hM⟩
theorem znt_mr {I I1 : Mem} {z : Nat} (h : ML I I1) : Mr MSL (znt I z) (znt I1 z) := by
  have e92 : I1 92 = I 92 := h.1 92 (by decide) (by decide) (by decide)
  have e94 : I1 94 = I 94 := h.1 94 (by decide) (by decide) (by decide)
  refine ⟨fun p a b => ?_, fun k hk => ?_⟩
  · have h97 : p ≠ 97 := fun e => b (e ▸ (by decide))
    have h98 : p ≠ 98 := fun e => b (e ▸ (by decide))
    have hp := h.1 p h97 h98 a
    unfold znt
    rw [upI_ne a, upI_ne a]
    by_cases e : p = 94
    · subst e
      rw [upR_t, upR_t, e92]
      by_cases hz : z = 14
      · rw [if_pos hz, if_pos hz, upI_ne (by decide), upI_ne (by decide), upR_t, upR_t, e94]
      · rw [if_neg hz, if_neg hz, e94]
    · rw [upR_ne e, upR_ne e]
      by_cases hz : z = 14
      · rw [if_pos hz, if_pos hz, upI_ne a, upI_ne a, upR_ne e, upR_ne e, hp]
      · rw [if_neg hz, if_neg hz, hp]
  · have h16 : k ≠ 16 := fun e => hk (e ▸ (by decide))
    have hk2 := h.2 k h16
    unfold znt
    by_cases e : k = 11
    · subst e; rw [upI_tt, upI_tt]
    · rw [upI_tf e, upI_tf e, upR_ne (by decide), upR_ne (by decide)]
      by_cases hz : z = 14
      · rw [if_pos hz, if_pos hz, upI_tf e, upI_tf e, upR_ne (by decide), upR_ne (by decide), hk2]
      · rw [if_neg hz, if_neg hz, hk2]
set_option maxHeartbeats 4000000 in
set_option maxRecDepth 100000 in
theorem c_X10_breakTie_b {I : Mem} {J : Lng} {t : Int32} (ht : pin t 4 = none) : q_E yX10_breakTie cX10_breakTie 3 (some .int) 5 [.ref 89, .int t] I J (some (.int (-2))) (upI I 89 0 0) (J) := by
  have htt := c_X10_noTie (I := upI I 89 0 0) (J := J) (t := t)
  rw [ht] at htt
  refine q_Ei me_X10_breakTie rfl (Nat.le_of_ble_eq_true rfl) ?_
  show q_w _ _ _ _ _ _ _ 0 [some (.ref 89), some (.int t), none] [] I J
  refine w_aload_n dX10_breakTie_0 rfl ?_
  refine w_iconst (v := 0) dX10_breakTie_1 (by decide) ?_
  refine w_putI dX10_breakTie_2 f_X10_41 (by first | assumption | rfl) rfl ?_
  refine w_iload_n dX10_breakTie_5 rfl ?_
  refine w_callSi dX10_breakTie_6 k_X10_121 (htt) rfl rfl rfl (Nat.le_of_ble_eq_true rfl) (by first | decide | omega) ?_
  refine w_if_eq (tgt := 15) dX10_breakTie_9 (by decide) (fun c_9 => absurd c_9 (show ¬ zB true = 0 by decide)) (fun c_9 => ?_)
  refine w_bipush (v := (-2)) dX10_breakTie_12 (by decide) ?_
  exact w_ret dX10_breakTie_14 ⟨rfl, rfl, rfl⟩
set_option maxHeartbeats 4000000 in
set_option maxRecDepth 100000 in
theorem c_X10_breakTie_l {I : Mem} {J : Lng} {N m : Nat} (hP : PW (I 92) N m) {t : Int32} {k : Nat} (ht : pin t 4 = some k) (hc : pchild (I 92) N m = false ∨ I 92 2 = t) : q_F yX10_breakTie cX10_breakTie 3 (some .int) 5 [.ref 89, .int t] I J (fun r I1 J1 => r = some (.int (-3)) ∧ J1 = J ∧ Mr MSS I I1) := by
  have htt := c_X10_noTie (I := upI I 89 0 0) (J := J) (t := t)
  rw [ht] at htt
  have hoa := c_X10_isOfAge (I := upI I 89 0 0) (J := J) (by rw [t0_92]; exact hP)
  rw [t0_92] at hoa
  refine q_Fi me_X10_breakTie rfl (Nat.le_of_ble_eq_true rfl) ?_
  show q_w _ _ _ _ _ _ _ 0 [some (.ref 89), some (.int t), none] [] I J
  refine w_aload_n dX10_breakTie_0 rfl ?_
  refine w_iconst (v := 0) dX10_breakTie_1 (by decide) ?_
  refine w_putI dX10_breakTie_2 f_X10_41 (by first | assumption | rfl) rfl ?_
  refine w_iload_n dX10_breakTie_5 rfl ?_
  refine w_callSi dX10_breakTie_6 k_X10_121 (htt) rfl rfl rfl (Nat.le_of_ble_eq_true rfl) (by first | decide | omega) ?_
  refine w_if_eq (tgt := 15) dX10_breakTie_9 (by decide) (fun c_9 => ?_) (fun c_9 => absurd (rfl : zB false = 0) c_9)
  refine w_aload_n dX10_breakTie_15 rfl ?_
  refine w_getR dX10_breakTie_16 f_X10_16 (by first | assumption | rfl) rfl rfl ?_
  refine w_iconst (v := 2) dX10_breakTie_19 (by decide) ?_
  refine w_iald (j := 2) dX10_breakTie_20 (by first | assumption | rfl) rfl rfl (by decide) (by decide) ?_
  rw [t0_92]
  refine w_istore_n dX10_breakTie_21 (by decide) rfl ?_
  refine w_iload_n dX10_breakTie_22 rfl ?_
  refine w_iload_n dX10_breakTie_23 rfl ?_
  refine w_icmp_eq (tgt := 34) dX10_breakTie_24 (by decide) (fun c_24 => ?_) (fun c_24 => ?_)
  · refine w_bipush (v := (-3)) dX10_breakTie_34 (by decide) ?_
    exact w_ret dX10_breakTie_36 ⟨_, rfl, rfl, rfl, Mr.rf.f (by decide)⟩
  · refine w_aload_n dX10_breakTie_27 rfl ?_
    refine w_callVF dX10_breakTie_28 k_X10_124 (by first | assumption | rfl) rfl (hoa) rfl rfl rfl (Nat.le_of_ble_eq_true rfl) (by first | decide | omega) (fun r_28 I_28 J_28 h_28 => ?_)
    obtain ⟨rfl, rfl, hM⟩ := h_28
    refine w_if_ne (tgt := 37) dX10_breakTie_31 (by decide) (fun c_31 => ?_) (fun c_31 => ?_)
    · exfalso
      rcases hc with hc | hc
      · exact c_31 (by rw [hc]; rfl)
      · exact c_24 hc
    · refine w_bipush (v := (-3)) dX10_breakTie_34 (by decide) ?_
      exact w_ret dX10_breakTie_36 ⟨_, rfl, rfl, rfl, (Mr.rf.f (by decide)).tr (hM.mr (by decide) (by decide))⟩
set_option maxHeartbeats 4000000 in
set_option maxRecDepth 100000 in
theorem c_X10_breakTie {I : Mem} {J : Lng} {N m : Nat} (hP : PW (I 92) N m) {z : Nat} (hz : I 89 11 = nI z) (hz2 : z ≤ 14) {t : Int32} {k : Nat} (ht : pin t 4 = some k) (hc : pchild (I 92) N m = true) (hne : ¬ I 92 2 = t) : q_F yX10_breakTie cX10_breakTie 3 (some .int) 5 [.ref 89, .int t] I J (fun r I1 J1 => r = some (.int (I 92 2)) ∧ J1 = J ∧ I1 92 = upd (I 92) 2 t ∧ Mr MSL (znt (upI I 89 0 0) z) I1) := by
  have htt := c_X10_noTie (I := upI I 89 0 0) (J := J) (t := t)
  rw [ht] at htt
  have hoa := c_X10_isOfAge (I := upI I 89 0 0) (J := J) (by rw [t0_92]; exact hP)
  rw [t0_92] at hoa
  refine q_Fi me_X10_breakTie rfl (Nat.le_of_ble_eq_true rfl) ?_
  show q_w _ _ _ _ _ _ _ 0 [some (.ref 89), some (.int t), none] [] I J
  refine w_aload_n dX10_breakTie_0 rfl ?_
  refine w_iconst (v := 0) dX10_breakTie_1 (by decide) ?_
  refine w_putI dX10_breakTie_2 f_X10_41 (by first | assumption | rfl) rfl ?_
  refine w_iload_n dX10_breakTie_5 rfl ?_
  refine w_callSi dX10_breakTie_6 k_X10_121 (htt) rfl rfl rfl (Nat.le_of_ble_eq_true rfl) (by first | decide | omega) ?_
  refine w_if_eq (tgt := 15) dX10_breakTie_9 (by decide) (fun c_9 => ?_) (fun c_9 => absurd (rfl : zB false = 0) c_9)
  refine w_aload_n dX10_breakTie_15 rfl ?_
  refine w_getR dX10_breakTie_16 f_X10_16 (by first | assumption | rfl) rfl rfl ?_
  refine w_iconst (v := 2) dX10_breakTie_19 (by decide) ?_
  refine w_iald (j := 2) dX10_breakTie_20 (by first | assumption | rfl) rfl rfl (by decide) (by decide) ?_
  rw [t0_92]
  refine w_istore_n dX10_breakTie_21 (by decide) rfl ?_
  refine w_iload_n dX10_breakTie_22 rfl ?_
  refine w_iload_n dX10_breakTie_23 rfl ?_
  refine w_icmp_eq (tgt := 34) dX10_breakTie_24 (by decide) (fun c_24 => absurd c_24 hne) (fun c_24 => ?_)
  refine w_aload_n dX10_breakTie_27 rfl ?_
  refine w_callVF dX10_breakTie_28 k_X10_124 (by first | assumption | rfl) rfl (hoa) rfl rfl rfl (Nat.le_of_ble_eq_true rfl) (by first | decide | omega) (fun r_28 I_28 J_28 h_28 => ?_)
  obtain ⟨rfl, rfl, hM⟩ := h_28
  have hnt := c_X10_note (I := I_28) (J := J_28) (z := z) (by rw [hM.2 11 (by decide)]; exact t0_z hz) hz2
  refine w_if_ne (tgt := 37) dX10_breakTie_31 (by decide) (fun c_31 => ?_) (fun c_31 => absurd c_31 (by rw [hc]; decide))
  refine w_aload_n dX10_breakTie_37 rfl ?_
  refine w_callVv dX10_breakTie_38 k_X10_112 (by first | assumption | rfl) rfl (hnt) rfl rfl rfl (Nat.le_of_ble_eq_true rfl) (by first | decide | omega) ?_
  refine w_aload_n dX10_breakTie_41 rfl ?_
  refine w_getR dX10_breakTie_42 f_X10_16 (by first | assumption | rfl) rfl rfl ?_
  refine w_iconst (v := 2) dX10_breakTie_45 (by decide) ?_
  refine w_iload_n dX10_breakTie_46 rfl ?_
  refine w_iast (j := 2) dX10_breakTie_47 (by first | assumption | rfl) rfl rfl (by decide) (by decide) ?_
  refine w_iload_n dX10_breakTie_48 rfl ?_
  exact w_ret dX10_breakTie_49 ⟨_, rfl, rfl, rfl, by rw [upI_self, znt_92, hM.pg p92, t0_92], (znt_mr hM).up (by decide) (by decide)⟩
