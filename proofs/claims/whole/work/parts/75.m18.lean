/-- the people that were read -/
def RP (tx : Nat → Int32) (k : Nat) (I : Mem) : Prop := ∀ i, i < k → I 91 (3 * i) = (if i = 0 then -9 else tx (4 * i + 4) - 48) ∧ I 91 (3 * i + 1) = tx (4 * i + 5) - 48 ∧ I 91 (3 * i + 2) = tx (4 * i + 6) - 48
def RLd (tx : Nat → Int32) (n : Nat) (I1 : Mem) : Prop := zf tx n 0 = -9 → ∃ k, k ≤ 7 ∧ n = 4 * k + 3 ∧ I1 89 6 = nI k ∧ I1 89 4 = tx 1 - 48 ∧ I1 89 5 = tx 2 - 48 ∧ RP tx k I1
theorem RLd.no {tx : Nat → Int32} {n p : Nat} {I1 : Mem} (hp : p < 2 ^ 31) (h : zf tx n 0 = nI p) : RLd tx n I1 := fun q => absurd (h.symm.trans q) (nI_ne9 hp)
set_option maxHeartbeats 4000000 in
set_option maxRecDepth 100000 in
theorem l_rl {I : Mem} {J : Lng} {tx : Nat → Int32} {n : Nat} (htx : I 90 = tx) (hT : TX tx n) (h2 : I 89 2 = nI n) (hn : n ≤ 40) : ∀ (r k : Nat) (I1 : Mem), 7 - k = r → k ≤ 7 → 4 * k + 3 ≤ n → Mr MSS I I1 → I1 89 3 = nI (4 * k + 3) → I1 89 6 = nI k → I1 89 4 = tx 1 - 48 → I1 89 5 = tx 2 - 48 → RP tx k I1 → zf tx n 0 = zf tx n (4 * k + 3) → q_w yX10_readLand.cls yX10_readLand.name cX10_readLand 1 .ireturn 3 (fun st I1 J1 => ∃ v : Int32, st = [.int v] ∧ (some (Value.int v) = some (.int (zf tx n 0)) ∧ J1 = J ∧ Mr MSS I I1 ∧ RLd tx n I1)) 84 [some (.ref 89)] [] (I1) (J) := by
  intro r
  induction r with
  | zero =>
    intro k I1 hr hk hpn hM h3 h6 h4 h5 hR hz
    have h90 : I1 90 = tx := by rw [hM.1 90 (by decide) (by decide)]; exact htx
    have h2' : I1 89 2 = nI n := by rw [hM.2 2 (by decide)]; exact h2
    obtain rfl : k = 7 := by omega
    refine w_aload_n dX10_readLand_84 rfl ?_
    refine w_getI dX10_readLand_85 f_X10_56 (by first | assumption | rfl) rfl ?_
    refine w_aload_n dX10_readLand_88 rfl ?_
    refine w_getI dX10_readLand_89 f_X10_53 (by first | assumption | rfl) rfl ?_
    refine w_icmp_ge (tgt := 145) dX10_readLand_92 (by decide) (fun c_92 => ?_) (fun c_92 => ?_)
    · have he : 4 * 7 + 3 = n := by
        rw [h3, h2'] at c_92
        rcases Nat.lt_or_ge (4 * 7 + 3) n with q | q
        · exact absurd c_92 (nI_ge q (by omega))
        · omega
      refine w_bipush (v := (-9)) dX10_readLand_145 (by decide) ?_
      exact w_ret dX10_readLand_147 ⟨_, rfl, by rw [hz, he, zf_n, if_pos (by omega)], rfl, hM, fun _ => ⟨7, by omega, he.symm, h6, h4, h5, hR⟩⟩
    · have hlt : 4 * 7 + 3 < n := by
        rw [h3, h2'] at c_92
        rcases Nat.lt_or_ge (4 * 7 + 3) n with q | q
        · exact q
        · exact absurd (nI_le q (by omega)) c_92
      refine w_aload_n dX10_readLand_95 rfl ?_
      refine w_getR dX10_readLand_96 f_X10_7 (by first | assumption | rfl) rfl rfl ?_
      refine w_aload_n dX10_readLand_99 rfl ?_
      refine w_getI dX10_readLand_100 f_X10_56 (by first | assumption | rfl) rfl ?_
      refine w_iald (j := 4 * 7 + 3) dX10_readLand_103 (by first | assumption | rfl) rfl h3 (show 4 * 7 + 3 < 40 by omega) (by decide) ?_
      rw [h90]
      refine w_bipush (v := 80) dX10_readLand_104 (by decide) ?_
      refine w_icmp_ne (tgt := 118) dX10_readLand_106 (by decide) (fun c_106 => ?_) (fun c_106 => ?_)
      · refine w_aload_n dX10_readLand_118 rfl ?_
        refine w_getI dX10_readLand_119 f_X10_56 (by first | assumption | rfl) rfl ?_
        have hzz : zf tx n 0 = nI (4 * 7 + 3) := by rw [hz, zf_s hlt, zms_7 (by decide)]; rfl
        exact w_ret dX10_readLand_122 ⟨_, rfl, by rw [h3, hzz], rfl, hM, RLd.no (by omega) hzz⟩
      · refine w_aload_n dX10_readLand_109 rfl ?_
        refine w_getI dX10_readLand_110 f_X10_59 (by first | assumption | rfl) rfl ?_
        refine w_bipush (v := 7) dX10_readLand_113 (by decide) ?_
        refine w_icmp_ne (tgt := 123) dX10_readLand_115 (by decide) (fun c_115 => absurd c_115 (fun q => q (by rw [h6]; rfl))) (fun c_115 => ?_)
        refine w_aload_n dX10_readLand_118 rfl ?_
        refine w_getI dX10_readLand_119 f_X10_56 (by first | assumption | rfl) rfl ?_
        have hzz : zf tx n 0 = nI (4 * 7 + 3) := by rw [hz, zf_s hlt, zms_7 (by decide)]; rfl
        exact w_ret dX10_readLand_122 ⟨_, rfl, by rw [h3, hzz], rfl, hM, RLd.no (by omega) hzz⟩
  | succ r ih =>
    intro k I1 hr hk hpn hM h3 h6 h4 h5 hR hz
    have h90 : I1 90 = tx := by rw [hM.1 90 (by decide) (by decide)]; exact htx
    have h2' : I1 89 2 = nI n := by rw [hM.2 2 (by decide)]; exact h2
    refine w_aload_n dX10_readLand_84 rfl ?_
    refine w_getI dX10_readLand_85 f_X10_56 (by first | assumption | rfl) rfl ?_
    refine w_aload_n dX10_readLand_88 rfl ?_
    refine w_getI dX10_readLand_89 f_X10_53 (by first | assumption | rfl) rfl ?_
    refine w_icmp_ge (tgt := 145) dX10_readLand_92 (by decide) (fun c_92 => ?_) (fun c_92 => ?_)
    · have he : 4 * k + 3 = n := by
        rw [h3, h2'] at c_92
        rcases Nat.lt_or_ge (4 * k + 3) n with q | q
        · exact absurd c_92 (nI_ge q (by omega))
        · omega
      refine w_bipush (v := (-9)) dX10_readLand_145 (by decide) ?_
      exact w_ret dX10_readLand_147 ⟨_, rfl, by rw [hz, he, zf_n, if_pos (by omega)], rfl, hM, fun _ => ⟨k, by omega, he.symm, h6, h4, h5, hR⟩⟩
    · have hlt : 4 * k + 3 < n := by
        rw [h3, h2'] at c_92
        rcases Nat.lt_or_ge (4 * k + 3) n with q | q
        · exact q
        · exact absurd (nI_le q (by omega)) c_92
      refine w_aload_n dX10_readLand_95 rfl ?_
      refine w_getR dX10_readLand_96 f_X10_7 (by first | assumption | rfl) rfl rfl ?_
      refine w_aload_n dX10_readLand_99 rfl ?_
      refine w_getI dX10_readLand_100 f_X10_56 (by first | assumption | rfl) rfl ?_
      refine w_iald (j := 4 * k + 3) dX10_readLand_103 (by first | assumption | rfl) rfl h3 (show 4 * k + 3 < 40 by omega) (by decide) ?_
      rw [h90]
      refine w_bipush (v := 80) dX10_readLand_104 (by decide) ?_
      refine w_icmp_ne (tgt := 118) dX10_readLand_106 (by decide) (fun c_106 => ?_) (fun c_106 => ?_)
      · refine w_aload_n dX10_readLand_118 rfl ?_
        refine w_getI dX10_readLand_119 f_X10_56 (by first | assumption | rfl) rfl ?_
        have hzz : zf tx n 0 = nI (4 * k + 3) := by rw [hz, zf_s hlt, zms_0 (by omega), if_neg (by simpa using c_106)]
        exact w_ret dX10_readLand_122 ⟨_, rfl, by rw [h3, hzz], rfl, hM, RLd.no (by omega) hzz⟩
      · refine w_aload_n dX10_readLand_109 rfl ?_
        refine w_getI dX10_readLand_110 f_X10_59 (by first | assumption | rfl) rfl ?_
        refine w_bipush (v := 7) dX10_readLand_113 (by decide) ?_
        refine w_icmp_ne (tgt := 123) dX10_readLand_115 (by decide) (fun c_115 => ?_) (fun c_115 => absurd c_115 (fun q => absurd (nI_inj (by omega) (by decide) (show nI k = nI 7 by rw [← h6]; exact q)) (by omega)))
        have hz2 : zf tx n (4 * k + 3) = zf tx n (4 * k + 4) := by rw [zf_s hlt, zms_0 (by omega), if_pos (by simpa using c_106)]
        refine w_aload_n dX10_readLand_123 rfl ?_
        refine w_dup dX10_readLand_124 rfl ?_
        refine w_getI dX10_readLand_125 f_X10_56 (by first | assumption | rfl) rfl ?_
        refine w_iconst (v := 1) dX10_readLand_128 (by decide) ?_
        refine w_iadd dX10_readLand_129 ?_
        rw [h3, nI_1]
        refine w_putI dX10_readLand_130 f_X10_56 (by first | assumption | rfl) rfl ?_
        refine w_aload_n dX10_readLand_133 rfl ?_
        have hrp := c_X10_readPerson (I := upI I1 89 3 (nI (4 * k + 3 + 1))) (J := J) (tx := tx) (n := n) (k := k) (by rw [upI_ne (by decide)]; exact h90) hT upI_tt (by rw [upI_tf (by decide)]; exact h2') (by rw [upI_tf (by decide)]; exact h6) (by omega) (by omega) hn
        refine w_callVF dX10_readLand_134 k_X10_72 (by first | assumption | rfl) rfl (hrp) rfl rfl rfl (Nat.le_of_ble_eq_true rfl) (by first | decide | omega) (fun r_134 I_134 J_134 h_134 => ?_)
        obtain ⟨rfl, hM2, g4, g5, ⟨rfl, q, hq, g3, gz⟩ | ⟨rfl, gle, gz, g3, g6, go, ga, gb, gc⟩⟩ := h_134
        · refine w_if_ne (tgt := 84) dX10_readLand_137 (by decide) (fun c_137 => absurd c_137 (fun q => q rfl)) (fun c_137 => ?_)
          refine w_aload_n dX10_readLand_140 rfl ?_
          refine w_getI dX10_readLand_141 f_X10_56 (by first | assumption | rfl) rfl ?_
          exact w_ret dX10_readLand_144 ⟨_, rfl, by rw [g3, hz, hz2, gz], rfl, (hM.f (by decide)).tr hM2, RLd.no hq (by rw [hz, hz2, gz])⟩
        · refine w_if_ne (tgt := 84) dX10_readLand_137 (by decide) (fun c_137 => ?_) (fun c_137 => absurd c_137 (by decide))
          refine ih (k + 1) I_134 (by omega) (by omega) (by omega) ((hM.f (by decide)).tr hM2) (by rw [g3, show 4 * (k + 1) + 3 = 4 * k + 7 by omega]) g6 (by rw [g4, upI_tf (by decide)]; exact h4) (by rw [g5, upI_tf (by decide)]; exact h5) (fun i hi => ?_) (by rw [hz, hz2, gz, show 4 * (k + 1) + 3 = 4 * k + 7 by omega])
          rcases Nat.lt_or_ge i k with q | q
          · obtain ⟨a1, a2, a3⟩ := hR i q
            exact ⟨by rw [go _ (by omega), upI_ne (by decide)]; exact a1, by rw [go _ (by omega), upI_ne (by decide)]; exact a2, by rw [go _ (by omega), upI_ne (by decide)]; exact a3⟩
          · obtain rfl : i = k := by omega
            exact ⟨ga, gb, gc⟩
theorem zms_a {l : Int32} : zms 0 l = decide (l = 84) := rfl
theorem zms_b {l : Int32} : zms 1 l = zfig l (nI 3) := rfl
theorem zms_c {l : Int32} : zms 2 l = zfig l (nI 9) := rfl
set_option maxHeartbeats 4000000 in
set_option maxRecDepth 100000 in
theorem c_X10_readLand {I : Mem} {J : Lng} {tx : Nat → Int32} {n : Nat} (htx : I 90 = tx) (hT : TX tx n) (h2 : I 89 2 = nI n) (hn : n ≤ 40) : q_F yX10_readLand cX10_readLand 1 (some .int) 3 [.ref 89] I J (fun r I1 J1 => r = some (.int (zf tx n 0)) ∧ J1 = J ∧ Mr MSS I I1 ∧ RLd tx n I1) := by
  have hA90 : (upI (upI (upI I 89 3 0) 89 6 0) 89 3 1) 90 = tx := by rw [upI_ne (by decide), upI_ne (by decide), upI_ne (by decide)]; exact htx
  have hA3 : (upI (upI (upI I 89 3 0) 89 6 0) 89 3 1) 89 3 = nI 1 := upI_tt
  have hA2 : (upI (upI (upI I 89 3 0) 89 6 0) 89 3 1) 89 2 = nI n := by rw [upI_tf (by decide), upI_tf (by decide), upI_tf (by decide)]; exact h2
  refine q_Fi me_X10_readLand rfl (Nat.le_of_ble_eq_true rfl) ?_
  show q_w _ _ _ _ _ _ _ 0 [some (.ref 89)] [] I J
  refine w_aload_n dX10_readLand_0 rfl ?_
  refine w_iconst (v := 0) dX10_readLand_1 (by decide) ?_
  refine w_putI dX10_readLand_2 f_X10_56 (by first | assumption | rfl) rfl ?_
  refine w_aload_n dX10_readLand_5 rfl ?_
  refine w_iconst (v := 0) dX10_readLand_6 (by decide) ?_
  refine w_putI dX10_readLand_7 f_X10_59 (by first | assumption | rfl) rfl ?_
  refine w_aload_n dX10_readLand_10 rfl ?_
  refine w_getI dX10_readLand_11 f_X10_53 (by first | assumption | rfl) rfl ?_
  rw [show (upI (upI I 89 3 0) 89 6 0) 89 2 = nI n by rw [upI_tf (by decide), upI_tf (by decide)]; exact h2]
  refine w_if_eq (tgt := 28) dX10_readLand_14 (by decide) (fun c_14 => ?_) (fun c_14 => ?_)
  · refine w_iconst (v := 0) dX10_readLand_28 (by decide) ?_
    have h0 : n = 0 := nI_inj (by omega) (by decide) c_14
    have hzz : zf tx n 0 = nI 0 := by rw [h0, zf_n, if_neg (by decide)]
    exact w_ret dX10_readLand_29 ⟨_, rfl, by rw [hzz]; rfl, rfl, (Mr.rf.f (by decide)).f (by decide), RLd.no (by decide) hzz⟩
  · refine w_aload_n dX10_readLand_17 rfl ?_
    refine w_getR dX10_readLand_18 f_X10_7 (by first | assumption | rfl) rfl rfl ?_
    refine w_iconst (v := 0) dX10_readLand_21 (by decide) ?_
    refine w_iald (j := 0) dX10_readLand_22 (by first | assumption | rfl) rfl rfl (by decide) (by decide) ?_
    rw [show (upI (upI I 89 3 0) 89 6 0) 90 0 = tx 0 by rw [upI_ne (by decide), upI_ne (by decide), htx]]
    refine w_bipush (v := 84) dX10_readLand_23 (by decide) ?_
    refine w_icmp_eq (tgt := 30) dX10_readLand_25 (by decide) (fun c_25 => ?_) (fun c_25 => ?_)
    · have h0 : n ≠ 0 := fun e => c_14 (by rw [e]; rfl)
      have hz0 : zf tx n 0 = zf tx n 1 := by rw [zf_s (by omega), zms_a, if_pos (by simpa using c_25)]
      rcases fig_cases (p := 1) (g := 3) hT (by omega) (by decide) zms_b (by decide) with ⟨hno, z1⟩ | ⟨hl1, d1, g1, f1, e1, z1⟩
      · have hf := c_X10_figure_n (J := J) (g := 3) hA90 hA3 hA2 (by omega) hn (by decide) hno
        refine w_aload_n dX10_readLand_30 rfl ?_
        refine w_iconst (v := 1) dX10_readLand_31 (by decide) ?_
        refine w_putI dX10_readLand_32 f_X10_56 (by first | assumption | rfl) rfl ?_
        refine w_aload_n dX10_readLand_35 rfl ?_
        refine w_aload_n dX10_readLand_36 rfl ?_
        refine w_iconst (v := 0) dX10_readLand_37 (by decide) ?_
        refine w_iconst (v := 3) dX10_readLand_38 (by decide) ?_
        refine w_callVi dX10_readLand_39 k_X10_62 (by first | assumption | rfl) rfl (hf) rfl rfl rfl (Nat.le_of_ble_eq_true rfl) (by first | decide | omega) ?_
        refine w_putI dX10_readLand_42 f_X10_66 (by first | assumption | rfl) rfl ?_
        refine w_aload_n dX10_readLand_45 rfl ?_
        refine w_aload_n dX10_readLand_46 rfl ?_
        refine w_getI dX10_readLand_47 f_X10_66 (by first | assumption | rfl) rfl ?_
        rw [upI_tt]
        refine w_bipush (v := (-9)) dX10_readLand_50 (by decide) ?_
        refine w_icmp_ne (tgt := 60) dX10_readLand_52 (by decide) (fun c_52 => absurd c_52 (fun q => q rfl)) (fun c_52 => ?_)
        refine w_bipush (v := (-9)) dX10_readLand_55 (by decide) ?_
        refine w_goto (tgt := 67) dX10_readLand_57 (by decide) ?_
        refine w_putI dX10_readLand_67 f_X10_69 (by first | assumption | rfl) rfl ?_
        refine w_aload_n dX10_readLand_70 rfl ?_
        refine w_getI dX10_readLand_71 f_X10_69 (by first | assumption | rfl) rfl ?_
        rw [upI_tt]
        refine w_bipush (v := (-9)) dX10_readLand_74 (by decide) ?_
        refine w_icmp_ne (tgt := 84) dX10_readLand_76 (by decide) (fun c_76 => absurd c_76 (fun q => q rfl)) (fun c_76 => ?_)
        refine w_aload_n dX10_readLand_79 rfl ?_
        refine w_getI dX10_readLand_80 f_X10_56 (by first | assumption | rfl) rfl ?_
        have hzz : zf tx n 0 = nI 1 := by rw [hz0, z1]
        exact w_ret dX10_readLand_83 ⟨_, rfl, by rw [upI_tf (by decide), upI_tf (by decide), hA3, hzz], rfl, ((((Mr.rf.f (by decide)).f (by decide)).f (by decide)).f (by decide)).f (by decide), RLd.no (by decide) hzz⟩
      · have hf := c_X10_figure_y (J := J) (g := 3) hA90 hA3 hA2 (by omega) hn (by decide) hl1 f1
        have hB90 : (upI (upI (upI (upI (upI I 89 3 0) 89 6 0) 89 3 1) 89 3 (nI (1 + 1))) 89 4 (nI d1)) 90 = tx := by rw [upI_ne (by decide), upI_ne (by decide)]; exact hA90
        have hB3 : (upI (upI (upI (upI (upI I 89 3 0) 89 6 0) 89 3 1) 89 3 (nI (1 + 1))) 89 4 (nI d1)) 89 3 = nI 2 := by rw [upI_tf (by decide)]; exact upI_tt
        have hB2 : (upI (upI (upI (upI (upI I 89 3 0) 89 6 0) 89 3 1) 89 3 (nI (1 + 1))) 89 4 (nI d1)) 89 2 = nI n := by rw [upI_tf (by decide), upI_tf (by decide)]; exact hA2
        rcases fig_cases (p := 2) (g := 9) hT (by omega) (by decide) zms_c (by decide) with ⟨hno, z2⟩ | ⟨hl2, d2, g2, f2, e2, z2⟩
        · have hf2 := c_X10_figure_n (J := J) (g := 9) hB90 hB3 hB2 (by omega) hn (by decide) hno
          refine w_aload_n dX10_readLand_30 rfl ?_
          refine w_iconst (v := 1) dX10_readLand_31 (by decide) ?_
          refine w_putI dX10_readLand_32 f_X10_56 (by first | assumption | rfl) rfl ?_
          refine w_aload_n dX10_readLand_35 rfl ?_
          refine w_aload_n dX10_readLand_36 rfl ?_
          refine w_iconst (v := 0) dX10_readLand_37 (by decide) ?_
          refine w_iconst (v := 3) dX10_readLand_38 (by decide) ?_
          refine w_callVi dX10_readLand_39 k_X10_62 (by first | assumption | rfl) rfl (hf) rfl rfl rfl (Nat.le_of_ble_eq_true rfl) (by first | decide | omega) ?_
          refine w_putI dX10_readLand_42 f_X10_66 (by first | assumption | rfl) rfl ?_
          refine w_aload_n dX10_readLand_45 rfl ?_
          refine w_aload_n dX10_readLand_46 rfl ?_
          refine w_getI dX10_readLand_47 f_X10_66 (by first | assumption | rfl) rfl ?_
          rw [upI_tt]
          refine w_bipush (v := (-9)) dX10_readLand_50 (by decide) ?_
          refine w_icmp_ne (tgt := 60) dX10_readLand_52 (by decide) (fun c_52 => ?_) (fun c_52 => absurd c_52 (nI_ne9 (by omega)))
          refine w_aload_n dX10_readLand_60 rfl ?_
          refine w_iconst (v := 0) dX10_readLand_61 (by decide) ?_
          refine w_bipush (v := 9) dX10_readLand_62 (by decide) ?_
          refine w_callVi dX10_readLand_64 k_X10_62 (by first | assumption | rfl) rfl (hf2) rfl rfl rfl (Nat.le_of_ble_eq_true rfl) (by first | decide | omega) ?_
          refine w_putI dX10_readLand_67 f_X10_69 (by first | assumption | rfl) rfl ?_
          refine w_aload_n dX10_readLand_70 rfl ?_
          refine w_getI dX10_readLand_71 f_X10_69 (by first | assumption | rfl) rfl ?_
          rw [upI_tt]
          refine w_bipush (v := (-9)) dX10_readLand_74 (by decide) ?_
          refine w_icmp_ne (tgt := 84) dX10_readLand_76 (by decide) (fun c_76 => absurd c_76 (fun q => q rfl)) (fun c_76 => ?_)
          refine w_aload_n dX10_readLand_79 rfl ?_
          refine w_getI dX10_readLand_80 f_X10_56 (by first | assumption | rfl) rfl ?_
          have hzz : zf tx n 0 = nI 2 := by rw [hz0, z1, z2]
          exact w_ret dX10_readLand_83 ⟨_, rfl, by rw [upI_tf (by decide), hB3, hzz], rfl, (((((Mr.rf.f (by decide)).f (by decide)).f (by decide)).f (by decide)).f (by decide)).f (by decide), RLd.no (by decide) hzz⟩
        · have hf2 := c_X10_figure_y (J := J) (g := 9) hB90 hB3 hB2 (by omega) hn (by decide) hl2 f2
          refine w_aload_n dX10_readLand_30 rfl ?_
          refine w_iconst (v := 1) dX10_readLand_31 (by decide) ?_
          refine w_putI dX10_readLand_32 f_X10_56 (by first | assumption | rfl) rfl ?_
          refine w_aload_n dX10_readLand_35 rfl ?_
          refine w_aload_n dX10_readLand_36 rfl ?_
          refine w_iconst (v := 0) dX10_readLand_37 (by decide) ?_
          refine w_iconst (v := 3) dX10_readLand_38 (by decide) ?_
          refine w_callVi dX10_readLand_39 k_X10_62 (by first | assumption | rfl) rfl (hf) rfl rfl rfl (Nat.le_of_ble_eq_true rfl) (by first | decide | omega) ?_
          refine w_putI dX10_readLand_42 f_X10_66 (by first | assumption | rfl) rfl ?_
          refine w_aload_n dX10_readLand_45 rfl ?_
          refine w_aload_n dX10_readLand_46 rfl ?_
          refine w_getI dX10_readLand_47 f_X10_66 (by first | assumption | rfl) rfl ?_
          rw [upI_tt]
          refine w_bipush (v := (-9)) dX10_readLand_50 (by decide) ?_
          refine w_icmp_ne (tgt := 60) dX10_readLand_52 (by decide) (fun c_52 => ?_) (fun c_52 => absurd c_52 (nI_ne9 (by omega)))
          refine w_aload_n dX10_readLand_60 rfl ?_
          refine w_iconst (v := 0) dX10_readLand_61 (by decide) ?_
          refine w_bipush (v := 9) dX10_readLand_62 (by decide) ?_
          refine w_callVi dX10_readLand_64 k_X10_62 (by first | assumption | rfl) rfl (hf2) rfl rfl rfl (Nat.le_of_ble_eq_true rfl) (by first | decide | omega) ?_
          refine w_putI dX10_readLand_67 f_X10_69 (by first | assumption | rfl) rfl ?_
          refine w_aload_n dX10_readLand_70 rfl ?_
          refine w_getI dX10_readLand_71 f_X10_69 (by first | assumption | rfl) rfl ?_
          rw [upI_tt]
          refine w_bipush (v := (-9)) dX10_readLand_74 (by decide) ?_
          refine w_icmp_ne (tgt := 84) dX10_readLand_76 (by decide) (fun c_76 => ?_) (fun c_76 => absurd c_76 (nI_ne9 (by omega)))
          exact l_rl htx hT h2 hn 7 0 _ rfl (by decide) (by omega) ((((((((Mr.rf.f (by decide)).f (by decide)).f (by decide)).f (by decide)).f (by decide)).f (by decide)).f (by decide))) (by rw [upI_tf (by decide)]; exact upI_tt) (by rw [upI_tf (by decide), upI_tf (by decide), upI_tf (by decide), upI_tf (by decide), upI_tf (by decide), upI_tt]; rfl) (by rw [upI_tf (by decide), upI_tf (by decide), upI_tt]; exact e1.symm) (by rw [upI_tt]; exact e2.symm) (fun i hi => absurd hi (by omega)) (by rw [hz0, z1, z2])
    · refine w_iconst (v := 0) dX10_readLand_28 (by decide) ?_
      have h0 : n ≠ 0 := fun e => c_14 (by rw [e]; rfl)
      have hzz : zf tx n 0 = nI 0 := by rw [zf_s (by omega), zms_a, if_neg (by simpa using c_25)]
      exact w_ret dX10_readLand_29 ⟨_, rfl, by rw [hzz]; rfl, rfl, (Mr.rf.f (by decide)).f (by decide), RLd.no (by decide) hzz⟩
set_option maxHeartbeats 4000000 in
set_option maxRecDepth 100000 in
theorem c_X10_fault {I : Mem} {J : Lng} {tx : Nat → Int32} {n : Nat} (htx : I 90 = tx) (hT : TX tx n) (h2 : I 89 2 = nI n) (hn : n ≤ 40) : q_F yX10_fault cX10_fault 1 (some .int) 4 [.ref 89] I J (fun r I1 J1 => r = some (.int (zf tx n 0)) ∧ J1 = J ∧ Mr MSS I I1) := by
  have hrl := c_X10_readLand (I := upI I 89 0 0) (J := J) (by rw [t0_ne (by decide)]; exact htx) hT (by rw [upI_tf (by decide)]; exact h2) hn
  refine q_Fi me_X10_fault rfl (Nat.le_of_ble_eq_true rfl) ?_
  show q_w _ _ _ _ _ _ _ 0 [some (.ref 89)] [] I J
  refine w_aload_n dX10_fault_0 rfl ?_
  refine w_iconst (v := 0) dX10_fault_1 (by decide) ?_
  refine w_putI dX10_fault_2 f_X10_41 (by first | assumption | rfl) rfl ?_
  refine w_aload_n dX10_fault_5 rfl ?_
  refine w_callVF dX10_fault_6 k_X10_75 (by first | assumption | rfl) rfl (hrl) rfl rfl rfl (Nat.le_of_ble_eq_true rfl) (by first | decide | omega) (fun r_6 I_6 J_6 h_6 => ?_)
  obtain ⟨rfl, rfl, hM, _⟩ := h_6
  exact w_ret dX10_fault_9 ⟨_, rfl, rfl, rfl, (Mr.rf.f (by decide)).tr hM⟩
