set_option maxHeartbeats 4000000 in
set_option maxRecDepth 100000 in
theorem c_X10_land_f {I : Mem} {J : Lng} {tx : Nat → Int32} {n : Nat} (htx : I 90 = tx) (hT : TX tx n) (h2 : I 89 2 = nI n) (hn : n ≤ 40) (hz : ¬ zf tx n 0 = -9) : q_F yX10_land cX10_land 2 (some .int) 4 [.ref 89] I J (fun r I1 J1 => r = some (.int (-3)) ∧ J1 = J ∧ Mr MSS I I1) := by
  have hrl := c_X10_readLand (I := upI I 89 0 0) (J := J) (by rw [t0_ne (by decide)]; exact htx) hT (by rw [upI_tf (by decide)]; exact h2) hn
  refine q_Fi me_X10_land rfl (Nat.le_of_ble_eq_true rfl) ?_
  show q_w _ _ _ _ _ _ _ 0 [some (.ref 89), none] [] I J
  refine w_aload_n dX10_land_0 rfl ?_
  refine w_iconst (v := 0) dX10_land_1 (by decide) ?_
  refine w_putI dX10_land_2 f_X10_41 (by first | assumption | rfl) rfl ?_
  refine w_aload_n dX10_land_5 rfl ?_
  refine w_callVF dX10_land_6 k_X10_75 (by first | assumption | rfl) rfl (hrl) rfl rfl rfl (Nat.le_of_ble_eq_true rfl) (by first | decide | omega) (fun r_6 I_6 J_6 h_6 => ?_)
  obtain ⟨rfl, rfl, hM, _⟩ := h_6
  refine w_bipush (v := (-9)) dX10_land_9 (by decide) ?_
  refine w_icmp_eq (tgt := 17) dX10_land_11 (by decide) (fun c_11 => absurd c_11 hz) (fun c_11 => ?_)
  refine w_bipush (v := (-3)) dX10_land_14 (by decide) ?_
  exact w_ret dX10_land_16 ⟨_, rfl, rfl, rfl, (Mr.rf.f (by decide)).tr hM⟩
def mg0 (tx : Nat → Int32) (k : Nat) (f : Nat → Int32) : Nat → Int32 := upd (upd (upd (upd (upd (fil f 0 22) 0 (nI (2 ^ k - 1))) 1 (if k = 0 then -9 else 0)) 2 (tx 1 - 48)) 3 (tx 2 - 48)) 6 (nI k)
def mlp (tx g : Nat → Int32) : Nat → (Nat → Int32)
  | 0 => g
  | p + 1 => upd (upd (upd (mlp tx g p) (7 + p) (if p = 0 then -9 else tx (4 * p + 4) - 48)) 14 (mlp tx g p 14 ||| ((tx (4 * p + 5) - 48) <<< (nI p &&& 31)))) (15 + p) (tx (4 * p + 6) - 48)
theorem mlp_lo {tx g : Nat → Int32} {i : Nat} (hi : i < 7) : ∀ p, mlp tx g p i = g i
  | 0 => rfl
  | p + 1 => by
    unfold mlp
    rw [upd_n (by omega), upd_n (by omega), upd_n (by omega), mlp_lo hi p]
theorem shl_m1 : ∀ k, k ≤ 7 → ((1 : Int32) <<< (nI k &&& 31)) - 1 = nI (2 ^ k - 1) := by decide +kernel
def LQ (I : Mem) (J : Lng) (tx : Nat → Int32) (n : Nat) (r : Option Value) (I1 : Mem) (J1 : Lng) : Prop := ∃ k f, k ≤ 7 ∧ n = 4 * k + 3 ∧ r = some (.int (nI k)) ∧ J1 = J ∧ Mr (96 :: MSL) (upI I 89 11 0) I1 ∧ I1 92 = mlp tx (mg0 tx k f) k ∧ I1 96 0 = 0 ∧ I1 96 1 = 0
set_option maxHeartbeats 4000000 in
set_option maxRecDepth 100000 in
theorem l_ld_104 {I M : Mem} {J : Lng} {tx : Nat → Int32} {n k : Nat} (hk : k ≤ 7) (hnk : n = 4 * k + 3) (hM : Mr MSS I M) (h6 : M 89 6 = nI k) (h4 : M 89 4 = tx 1 - 48) (h5 : M 89 5 = tx 2 - 48) (hR : RP tx k M) : ∀ (r p : Nat), k - p = r → p ≤ k → q_w yX10_land.cls yX10_land.name cX10_land 2 .ireturn 4 (fun st I1 J1 => ∃ v : Int32, st = [.int v] ∧ LQ I J tx n (some (.int v)) I1 J1) 104 [some (.ref 89), some (.int (nI p))] [] (upR M 92 (mlp tx (mg0 tx k (M 92)) p)) (J) := by
  intro r
  induction r with
  | zero =>
    intro p hr hp
    obtain rfl : p = k := by omega
    refine w_iload_n dX10_land_104 rfl ?_
    refine w_aload_n dX10_land_105 rfl ?_
    refine w_getI dX10_land_106 f_X10_59 (by first | assumption | rfl) rfl ?_
    rw [upR_ne (by decide), h6]
    refine w_icmp_ge (tgt := 176) dX10_land_109 (by decide) (fun c_109 => ?_) (fun c_109 => absurd (Int32.le_refl _) c_109)
    refine w_aload_n dX10_land_176 rfl ?_
    refine w_iconst (v := 0) dX10_land_177 (by decide) ?_
    refine w_putI dX10_land_178 f_X10_79 (by first | assumption | rfl) rfl ?_
    refine w_aload_n dX10_land_181 rfl ?_
    refine w_getR dX10_land_182 f_X10_28 (by first | assumption | rfl) rfl rfl ?_
    refine w_iconst (v := 0) dX10_land_185 (by decide) ?_
    refine w_iconst (v := 0) dX10_land_186 (by decide) ?_
    refine w_zast (j := 0) dX10_land_187 (by first | assumption | rfl) rfl rfl (by decide) (by decide) (by first | rfl | decide | assumption) ?_
    refine w_aload_n dX10_land_188 rfl ?_
    refine w_getR dX10_land_189 f_X10_28 (by first | assumption | rfl) rfl rfl ?_
    refine w_iconst (v := 1) dX10_land_192 (by decide) ?_
    refine w_iconst (v := 0) dX10_land_193 (by decide) ?_
    refine w_zast (j := 1) dX10_land_194 (by first | assumption | rfl) rfl rfl (by decide) (by decide) (by first | rfl | decide | assumption) ?_
    refine w_aload_n dX10_land_195 rfl ?_
    refine w_getR dX10_land_196 f_X10_16 (by first | assumption | rfl) rfl rfl ?_
    refine w_bipush (v := 6) dX10_land_199 (by decide) ?_
    refine w_iald (j := 6) dX10_land_201 (by first | assumption | rfl) rfl rfl (by decide) (by decide) ?_
    refine w_ret dX10_land_202 ⟨_, rfl, p, M 92, hk, hnk, ?_, rfl, ?_, ?_, ?_, ?_⟩
    · rw [upI_ne (by decide), upI_ne (by decide), upI_ne (by decide), upR_t, mlp_lo (by decide)]; rfl
    · refine ⟨fun p hp hq => ?_, fun q hq => ?_⟩
      · have h1 : p ∉ MSS := fun e => hq (List.mem_cons_of_mem _ (List.mem_cons_of_mem _ e))
        have h2 : p ≠ 96 := fun e => hq (by rw [e]; decide)
        have h3 : p ≠ 92 := fun e => hq (by rw [e]; decide)
        rw [upI_ne h2, upI_ne h2, upI_ne hp, upR_ne h3, upI_ne hp, hM.1 p hp h1]
      · rw [upI_ne (by decide), upI_ne (by decide)]
        by_cases h11 : q = 11
        · rw [h11, upI_tt, upI_tt]
        · rw [upI_tf h11, upI_tf h11, upR_ne (by decide), hM.2 q hq]
    · rw [upI_ne (by decide), upI_ne (by decide), upI_ne (by decide), upR_t]
    · rw [upI_tf (by decide), upI_tt]
    · rw [upI_tt]
  | succ r ih =>
    intro p hr hp
    have hpk : p < k := by omega
    obtain ⟨r1, r2, r3⟩ := hR p hpk
    refine w_iload_n dX10_land_104 rfl ?_
    refine w_aload_n dX10_land_105 rfl ?_
    refine w_getI dX10_land_106 f_X10_59 (by first | assumption | rfl) rfl ?_
    rw [upR_ne (by decide), h6]
    refine w_icmp_ge (tgt := 176) dX10_land_109 (by decide) (fun c_109 => absurd c_109 (nI_ge hpk (by omega))) (fun c_109 => ?_)
    refine w_aload_n dX10_land_112 rfl ?_
    refine w_getR dX10_land_113 f_X10_16 (by first | assumption | rfl) rfl rfl ?_
    refine w_bipush (v := 7) dX10_land_116 (by decide) ?_
    refine w_iload_n dX10_land_118 rfl ?_
    refine w_iadd dX10_land_119 ?_
    refine w_aload_n dX10_land_120 rfl ?_
    refine w_getR dX10_land_121 f_X10_13 (by first | assumption | rfl) rfl rfl ?_
    refine w_iconst (v := 3) dX10_land_124 (by decide) ?_
    refine w_iload_n dX10_land_125 rfl ?_
    refine w_imul dX10_land_126 ?_
    refine w_iald (j := 3 * p) dX10_land_127 (by first | assumption | rfl) rfl (pk_mul 3 p) (show 3 * p < 21 by omega) (by decide) ?_
    rw [upR_ne (show (91 : Nat) ≠ 92 by decide), r1]
    refine w_iast (j := 7 + p) dX10_land_128 (by first | assumption | rfl) rfl (nI_add (a := 7) (b := p)) (show 7 + p < 22 by omega) (by decide) ?_
    rw [upI_upR]
    refine w_aload_n dX10_land_129 rfl ?_
    refine w_getR dX10_land_130 f_X10_16 (by first | assumption | rfl) rfl rfl ?_
    refine w_bipush (v := 14) dX10_land_133 (by decide) ?_
    refine w_dup2 dX10_land_135 rfl rfl ?_
    refine w_iald (j := 14) dX10_land_136 (by first | assumption | rfl) rfl rfl (by decide) (by decide) ?_
    rw [upR_t, upd_n (show (14 : Nat) ≠ 7 + p by omega)]
    refine w_aload_n dX10_land_137 rfl ?_
    refine w_getR dX10_land_138 f_X10_13 (by first | assumption | rfl) rfl rfl ?_
    refine w_iconst (v := 3) dX10_land_141 (by decide) ?_
    refine w_iload_n dX10_land_142 rfl ?_
    refine w_imul dX10_land_143 ?_
    refine w_iconst (v := 1) dX10_land_144 (by decide) ?_
    refine w_iadd dX10_land_145 ?_
    refine w_iald (j := 3 * p + 1) dX10_land_146 (by first | assumption | rfl) rfl (by rw [show (3 : Int32) * nI p = nI (3 * p) from pk_mul 3 p, nI_1]) (show 3 * p + 1 < 21 by omega) (by decide) ?_
    rw [upR_ne (show (91 : Nat) ≠ 92 by decide), r2]
    refine w_iload_n dX10_land_147 rfl ?_
    refine w_ishl dX10_land_148 ?_
    refine w_ior dX10_land_149 ?_
    refine w_iast (j := 14) dX10_land_150 (by first | assumption | rfl) rfl rfl (by decide) (by decide) ?_
    rw [upI_upR]
    refine w_aload_n dX10_land_151 rfl ?_
    refine w_getR dX10_land_152 f_X10_16 (by first | assumption | rfl) rfl rfl ?_
    refine w_bipush (v := 15) dX10_land_155 (by decide) ?_
    refine w_iload_n dX10_land_157 rfl ?_
    refine w_iadd dX10_land_158 ?_
    refine w_aload_n dX10_land_159 rfl ?_
    refine w_getR dX10_land_160 f_X10_13 (by first | assumption | rfl) rfl rfl ?_
    refine w_iconst (v := 3) dX10_land_163 (by decide) ?_
    refine w_iload_n dX10_land_164 rfl ?_
    refine w_imul dX10_land_165 ?_
    refine w_iconst (v := 2) dX10_land_166 (by decide) ?_
    refine w_iadd dX10_land_167 ?_
    refine w_iald (j := 3 * p + 2) dX10_land_168 (by first | assumption | rfl) rfl (by rw [show (3 : Int32) * nI p = nI (3 * p) from pk_mul 3 p, nI_2]) (show 3 * p + 2 < 21 by omega) (by decide) ?_
    rw [upR_ne (show (91 : Nat) ≠ 92 by decide), r3]
    refine w_iast (j := 15 + p) dX10_land_169 (by first | assumption | rfl) rfl (nI_add (a := 15) (b := p)) (show 15 + p < 22 by omega) (by decide) ?_
    rw [upI_upR]
    refine w_iincv (c := 1) dX10_land_170 (by decide) rfl (by decide) rfl ?_
    refine w_goto (tgt := 104) dX10_land_173 (by decide) ?_
    rw [nI_1]
    exact ih (p + 1) (by omega) (by omega)
set_option maxHeartbeats 4000000 in
set_option maxRecDepth 100000 in
theorem l_ld_70 {I M : Mem} {J : Lng} {tx : Nat → Int32} {n k : Nat} (hk : k ≤ 7) (hnk : n = 4 * k + 3) (hM : Mr MSS I M) (h6 : M 89 6 = nI k) (h4 : M 89 4 = tx 1 - 48) (h5 : M 89 5 = tx 2 - 48) (hR : RP tx k M) {v : Int32} (hv : v = if k = 0 then -9 else 0) (x1 : Option Value) : q_w yX10_land.cls yX10_land.name cX10_land 2 .ireturn 4 (fun st I1 J1 => ∃ v : Int32, st = [.int v] ∧ LQ I J tx n (some (.int v)) I1 J1) 70 [some (.ref 89), x1] [.int v, .int 1, .ref 92] (upR M 92 (upd (fil (M 92) 0 22) 0 (nI (2 ^ k - 1)))) (J) := by
  subst hv
  refine w_iast (j := 1) dX10_land_70 (by first | assumption | rfl) rfl rfl (by decide) (by decide) ?_
  rw [upI_upR]
  refine w_aload_n dX10_land_71 rfl ?_
  refine w_getR dX10_land_72 f_X10_16 (by first | assumption | rfl) rfl rfl ?_
  refine w_iconst (v := 2) dX10_land_75 (by decide) ?_
  refine w_aload_n dX10_land_76 rfl ?_
  refine w_getI dX10_land_77 f_X10_66 (by first | assumption | rfl) rfl ?_
  rw [upR_ne (show (89 : Nat) ≠ 92 by decide), h4]
  refine w_iast (j := 2) dX10_land_80 (by first | assumption | rfl) rfl rfl (by decide) (by decide) ?_
  rw [upI_upR]
  refine w_aload_n dX10_land_81 rfl ?_
  refine w_getR dX10_land_82 f_X10_16 (by first | assumption | rfl) rfl rfl ?_
  refine w_iconst (v := 3) dX10_land_85 (by decide) ?_
  refine w_aload_n dX10_land_86 rfl ?_
  refine w_getI dX10_land_87 f_X10_69 (by first | assumption | rfl) rfl ?_
  rw [upR_ne (show (89 : Nat) ≠ 92 by decide), h5]
  refine w_iast (j := 3) dX10_land_90 (by first | assumption | rfl) rfl rfl (by decide) (by decide) ?_
  rw [upI_upR]
  refine w_aload_n dX10_land_91 rfl ?_
  refine w_getR dX10_land_92 f_X10_16 (by first | assumption | rfl) rfl rfl ?_
  refine w_bipush (v := 6) dX10_land_95 (by decide) ?_
  refine w_aload_n dX10_land_97 rfl ?_
  refine w_getI dX10_land_98 f_X10_59 (by first | assumption | rfl) rfl ?_
  rw [upR_ne (show (89 : Nat) ≠ 92 by decide), h6]
  refine w_iast (j := 6) dX10_land_101 (by first | assumption | rfl) rfl rfl (by decide) (by decide) ?_
  rw [upI_upR]
  refine w_iconst (v := 0) dX10_land_102 (by decide) ?_
  refine w_istore_n dX10_land_103 (by decide) rfl ?_
  exact l_ld_104 hk hnk hM h6 h4 h5 hR k 0 rfl (Nat.zero_le _)
set_option maxHeartbeats 4000000 in
set_option maxRecDepth 100000 in
theorem l_ld_19 {I M : Mem} {J : Lng} {tx : Nat → Int32} {n k : Nat} (hk : k ≤ 7) (hnk : n = 4 * k + 3) (hM : Mr MSS I M) (h6 : M 89 6 = nI k) (h4 : M 89 4 = tx 1 - 48) (h5 : M 89 5 = tx 2 - 48) (hR : RP tx k M) : ∀ (r j : Nat), 22 - j = r → j ≤ 22 → q_w yX10_land.cls yX10_land.name cX10_land 2 .ireturn 4 (fun st I1 J1 => ∃ v : Int32, st = [.int v] ∧ LQ I J tx n (some (.int v)) I1 J1) 19 [some (.ref 89), some (.int (nI j))] [] (upR M 92 (fil (M 92) 0 j)) (J) := by
  intro r
  induction r with
  | zero =>
    intro j hr hj
    obtain rfl : j = 22 := by omega
    refine w_iload_n dX10_land_19 rfl ?_
    refine w_bipush (v := 22) dX10_land_20 (by decide) ?_
    refine w_icmp_ge (tgt := 38) dX10_land_22 (by decide) (fun c_22 => ?_) (fun c_22 => absurd (show (22 : Int32) ≤ nI 22 by decide) c_22)
    refine w_aload_n dX10_land_38 rfl ?_
    refine w_getR dX10_land_39 f_X10_16 (by first | assumption | rfl) rfl rfl ?_
    refine w_iconst (v := 0) dX10_land_42 (by decide) ?_
    refine w_iconst (v := 1) dX10_land_43 (by decide) ?_
    refine w_aload_n dX10_land_44 rfl ?_
    refine w_getI dX10_land_45 f_X10_59 (by first | assumption | rfl) rfl ?_
    rw [upR_ne (show (89 : Nat) ≠ 92 by decide), h6]
    refine w_ishl dX10_land_48 ?_
    refine w_iconst (v := 1) dX10_land_49 (by decide) ?_
    refine w_isub dX10_land_50 ?_
    rw [shl_m1 k hk]
    refine w_iast (j := 0) dX10_land_51 (by first | assumption | rfl) rfl rfl (by decide) (by decide) ?_
    rw [upI_upR]
    refine w_aload_n dX10_land_52 rfl ?_
    refine w_getR dX10_land_53 f_X10_16 (by first | assumption | rfl) rfl rfl ?_
    refine w_iconst (v := 1) dX10_land_56 (by decide) ?_
    refine w_aload_n dX10_land_57 rfl ?_
    refine w_getI dX10_land_58 f_X10_59 (by first | assumption | rfl) rfl ?_
    rw [upR_ne (show (89 : Nat) ≠ 92 by decide), h6]
    refine w_if_ne (tgt := 69) dX10_land_61 (by decide) (fun c_61 => ?_) (fun c_61 => ?_)
    · refine w_iconst (v := 0) dX10_land_69 (by decide) ?_
      exact l_ld_70 hk hnk hM h6 h4 h5 hR (by rw [if_neg (fun e => c_61 (by rw [e]; rfl))]) _
    · refine w_bipush (v := (-9)) dX10_land_64 (by decide) ?_
      refine w_goto (tgt := 70) dX10_land_66 (by decide) ?_
      exact l_ld_70 hk hnk hM h6 h4 h5 hR (by rw [if_pos (nI_inj (by omega) (by decide) c_61)]) _
  | succ r ih =>
    intro j hr hj
    have hj2 : j < 22 := by omega
    refine w_iload_n dX10_land_19 rfl ?_
    refine w_bipush (v := 22) dX10_land_20 (by decide) ?_
    refine w_icmp_ge (tgt := 38) dX10_land_22 (by decide) (fun c_22 => absurd c_22 (nI_ge (b := 22) hj2 (by decide))) (fun c_22 => ?_)
    refine w_aload_n dX10_land_25 rfl ?_
    refine w_getR dX10_land_26 f_X10_16 (by first | assumption | rfl) rfl rfl ?_
    refine w_iload_n dX10_land_29 rfl ?_
    refine w_iconst (v := 0) dX10_land_30 (by decide) ?_
    refine w_iast (j := j) dX10_land_31 (by first | assumption | rfl) rfl rfl (show j < 22 by omega) (by decide) ?_
    rw [fil_s]
    refine w_iincv (c := 1) dX10_land_32 (by decide) rfl (by decide) rfl ?_
    refine w_goto (tgt := 19) dX10_land_35 (by decide) ?_
    rw [nI_1]
    exact ih (j + 1) (by omega) (by omega)
set_option maxHeartbeats 4000000 in
set_option maxRecDepth 100000 in
theorem c_X10_land {I : Mem} {J : Lng} {tx : Nat → Int32} {n : Nat} (htx : I 90 = tx) (hT : TX tx n) (h2 : I 89 2 = nI n) (hn : n ≤ 40) (hz : zf tx n 0 = -9) : q_F yX10_land cX10_land 2 (some .int) 4 [.ref 89] I J (fun r I1 J1 => LQ I J tx n r I1 J1) := by
  have hrl := c_X10_readLand (I := upI I 89 0 0) (J := J) (by rw [t0_ne (by decide)]; exact htx) hT (by rw [upI_tf (by decide)]; exact h2) hn
  refine q_Fi me_X10_land rfl (Nat.le_of_ble_eq_true rfl) ?_
  show q_w _ _ _ _ _ _ _ 0 [some (.ref 89), none] [] I J
  refine w_aload_n dX10_land_0 rfl ?_
  refine w_iconst (v := 0) dX10_land_1 (by decide) ?_
  refine w_putI dX10_land_2 f_X10_41 (by first | assumption | rfl) rfl ?_
  refine w_aload_n dX10_land_5 rfl ?_
  refine w_callVF dX10_land_6 k_X10_75 (by first | assumption | rfl) rfl (hrl) rfl rfl rfl (Nat.le_of_ble_eq_true rfl) (by first | decide | omega) (fun r_6 I_6 J_6 h_6 => ?_)
  obtain ⟨rfl, rfl, hM, hRL⟩ := h_6
  obtain ⟨k, hk, hnk, h6, h4, h5, hR⟩ := hRL hz
  refine w_bipush (v := (-9)) dX10_land_9 (by decide) ?_
  refine w_icmp_eq (tgt := 17) dX10_land_11 (by decide) (fun c_11 => ?_) (fun c_11 => absurd hz c_11)
  refine w_iconst (v := 0) dX10_land_17 (by decide) ?_
  refine w_istore_n dX10_land_18 (by decide) rfl ?_
  have hl := l_ld_19 (I := I) (J := J_6) hk hnk ((Mr.rf.f (by decide)).tr hM) h6 h4 h5 hR 22 0 rfl (by decide)
  rw [fil_0, upR_id] at hl
  exact hl
