set_option maxHeartbeats 4000000 in
set_option maxRecDepth 100000 in
theorem c_X10_odds_u {I : Mem} {J : Lng} {N m : Nat} (hP : PW (I 92) N m) {p : Int32} {u : Bool} (hp : pin p N = none) : q_E yX10_odds cX10_odds 8 (some .int) 6 [.ref 89, .int p, .int (zB u)] I J (some (.int (-1))) (upI I 89 0 0) (J) := by
  have hnp := c_X10_noPerson (I := upI I 89 0 0) (J := J) (N := N) (by rw [t0_92]; exact hP.1) hP.2.1 (p := p)
  rw [hp] at hnp
  refine q_Ei me_X10_odds rfl (Nat.le_of_ble_eq_true rfl) ?_
  show q_w _ _ _ _ _ _ _ 0 [some (.ref 89), some (.int p), some (.int (zB u)), none, none, none, none, none] [] I J
  refine w_aload_n dX10_odds_0 rfl ?_
  refine w_iconst (v := 0) dX10_odds_1 (by decide) ?_
  refine w_putI dX10_odds_2 f_X10_41 (by first | assumption | rfl) rfl ?_
  refine w_aload_n dX10_odds_5 rfl ?_
  refine w_iload_n dX10_odds_6 rfl ?_
  refine w_callVi dX10_odds_7 k_X10_104 (by first | assumption | rfl) rfl (hnp) rfl rfl rfl (Nat.le_of_ble_eq_true rfl) (by first | decide | omega) ?_
  refine w_if_eq (tgt := 15) dX10_odds_10 (by decide) (fun c_10 => absurd c_10 (show ¬ zB true = 0 by decide)) (fun c_10 => ?_)
  refine w_iconst (v := (-1)) dX10_odds_13 (by decide) ?_
  exact w_ret dX10_odds_14 ⟨rfl, rfl, rfl⟩
set_option maxHeartbeats 4000000 in
set_option maxRecDepth 100000 in
theorem c_X10_odds_l {I : Mem} {J : Lng} {N m : Nat} (hP : PW (I 92) N m) {p : Int32} {u : Bool} {j : Nat} (hp : pin p N = some j) (hl : m.testBit j = false) : q_E yX10_odds cX10_odds 8 (some .int) 6 [.ref 89, .int p, .int (zB u)] I J (some (.int (nI (mfr 0 1 u)))) (upI I 89 0 0) (J) := by
  have hnp := c_X10_noPerson (I := upI I 89 0 0) (J := J) (N := N) (by rw [t0_92]; exact hP.1) hP.2.1 (p := p)
  rw [hp] at hnp
  have h7 := hP.2.1
  have hm := p2_128 h7 hP.2.2.2.1
  obtain ⟨hj, rfl⟩ := pin_some (by omega) hp
  have hhas := c_X10_has (I := upI I 89 0 0) (J := J) (s := nI m) (k := nI j)
  rw [mI_bit m hm j (by omega), hl] at hhas
  have h0 : I 92 0 = nI m := hP.2.2.1
  refine q_Ei me_X10_odds rfl (Nat.le_of_ble_eq_true rfl) ?_
  show q_w _ _ _ _ _ _ _ 0 [some (.ref 89), some (.int (nI j)), some (.int (zB u)), none, none, none, none, none] [] I J
  refine w_aload_n dX10_odds_0 rfl ?_
  refine w_iconst (v := 0) dX10_odds_1 (by decide) ?_
  refine w_putI dX10_odds_2 f_X10_41 (by first | assumption | rfl) rfl ?_
  refine w_aload_n dX10_odds_5 rfl ?_
  refine w_iload_n dX10_odds_6 rfl ?_
  refine w_callVi dX10_odds_7 k_X10_104 (by first | assumption | rfl) rfl (hnp) rfl rfl rfl (Nat.le_of_ble_eq_true rfl) (by first | decide | omega) ?_
  refine w_if_eq (tgt := 15) dX10_odds_10 (by decide) (fun c_10 => ?_) (fun c_10 => absurd (rfl : zB false = 0) c_10)
  refine w_aload_n dX10_odds_15 rfl ?_
  refine w_getR dX10_odds_16 f_X10_16 (by first | assumption | rfl) rfl rfl ?_
  refine w_iconst (v := 0) dX10_odds_19 (by decide) ?_
  refine w_iald (j := 0) dX10_odds_20 (by first | assumption | rfl) rfl rfl (by decide) (by decide) ?_
  rw [t0_92, h0]
  refine w_iload_n dX10_odds_21 rfl ?_
  refine w_callSi dX10_odds_22 k_X10_82 (hhas) rfl rfl rfl (Nat.le_of_ble_eq_true rfl) (by first | decide | omega) ?_
  refine w_if_ne (tgt := 38) dX10_odds_25 (by decide) (fun c_25 => absurd c_25 (fun q => q rfl)) (fun c_25 => ?_)
  refine w_iload_n dX10_odds_28 rfl ?_
  refine w_if_eq (tgt := 36) dX10_odds_29 (by decide) (fun c_29 => ?_) (fun c_29 => ?_)
  · refine w_iconst (v := 1) dX10_odds_36 (by decide) ?_
    refine w_ret dX10_odds_37 ⟨?_, rfl, rfl⟩
    rw [zB_eq0.mp c_29]; rfl
  · refine w_iconst (v := 0) dX10_odds_32 (by decide) ?_
    refine w_goto (tgt := 37) dX10_odds_33 (by decide) ?_
    refine w_ret dX10_odds_37 ⟨?_, rfl, rfl⟩
    rw [show u = true by simpa [zB_eq0] using c_29]; rfl
theorem rem16 {a : Nat} (h : a < 2 ^ 31) : nI a - nI a / 16 * 16 = nI (a % 16) := pk_rem (d := 16) h (by decide) (by decide)
theorem rem2 {a : Nat} (h : a < 2 ^ 31) : nI a - nI a / 2 * 2 = nI (a % 2) := pk_rem (d := 2) h (by decide) (by decide)
theorem div16 {a : Nat} (h : a < 2 ^ 31) : nI a / 16 = nI (a / 16) := pk_div (d := 16) h (by decide) (by decide)
theorem div2 {a : Nat} (h : a < 2 ^ 31) : nI a / 2 = nI (a / 2) := pk_div (d := 2) h (by decide) (by decide)
theorem m16 {m : Nat} : (16 : Int32) * nI m = nI (16 * m) := pk_mul 16 m
set_option maxHeartbeats 4000000 in
set_option maxRecDepth 100000 in
theorem l_od_198 {I I1 : Mem} {J : Lng} {m j G : Nat} {u : Bool} (hm : m < 128) (hG : G ≤ 5040) (h0 : I1 92 0 = nI m) (hM : Mr MSS I I1) {f : Int32} : ∀ (r k : Nat) (x : Int32 × Int32) (x7 : Option Value), 16 - k = r → k ≤ 16 → msum (I1 99) (16 * m) r k x = (nI G, nI (fac (pop m))) → q_w yX10_odds.cls yX10_odds.name cX10_odds 8 .ireturn 6 (fun st I2 J1 => ∃ v : Int32, st = [.int v] ∧ (some (Value.int v) = some (.int (nI (mfr G (fac (pop m)) u))) ∧ J1 = J ∧ Mr MSS I I2)) 198 [some (.ref 89), some (.int (nI j)), some (.int (zB u)), some (.int (f)), some (.int (x.1)), some (.int (x.2)), some (.int (nI k)), x7] [] (I1) (J) := by
  intro r
  induction r with
  | zero =>
    intro k x x7 hr hk hx
    obtain rfl : k = 16 := by omega
    have hx2 : x = (nI G, nI (fac (pop m))) := hx
    subst hx2
    have hfp := fac_p m
    have hfr := c_X10_fraction (I := I1) (J := J) (a := G) (b := fac (pop m)) (u := u) (by omega) (by omega) (by omega)
    refine w_iload dX10_odds_198 rfl ?_
    refine w_bipush (v := 16) dX10_odds_200 (by decide) ?_
    refine w_icmp_ge (tgt := 256) dX10_odds_202 (by decide) (fun c_202 => ?_) (fun c_202 => absurd (show (16 : Int32) ≤ nI 16 by decide) c_202)
    refine w_iload dX10_odds_256 rfl ?_
    refine w_iload dX10_odds_258 rfl ?_
    refine w_iload_n dX10_odds_260 rfl ?_
    refine w_callSi dX10_odds_261 k_X10_169 (hfr) rfl rfl rfl (Nat.le_of_ble_eq_true rfl) (by first | decide | omega) ?_
    exact w_ret dX10_odds_264 ⟨_, rfl, rfl, rfl, hM⟩
  | succ r ih =>
    intro k x x7 hr hk hx
    have hk16 : k < 16 := by omega
    unfold msum at hx
    refine w_iload dX10_odds_198 rfl ?_
    refine w_bipush (v := 16) dX10_odds_200 (by decide) ?_
    refine w_icmp_ge (tgt := 256) dX10_odds_202 (by decide) (fun c_202 => absurd c_202 (nI_ge (b := 16) hk16 (by decide))) (fun c_202 => ?_)
    refine w_aload_n dX10_odds_205 rfl ?_
    refine w_getR dX10_odds_206 f_X10_38 (by first | assumption | rfl) rfl rfl ?_
    refine w_bipush (v := 16) dX10_odds_209 (by decide) ?_
    refine w_aload_n dX10_odds_211 rfl ?_
    refine w_getR dX10_odds_212 f_X10_16 (by first | assumption | rfl) rfl rfl ?_
    refine w_iconst (v := 0) dX10_odds_215 (by decide) ?_
    refine w_iald (j := 0) dX10_odds_216 (by first | assumption | rfl) rfl rfl (by decide) (by decide) ?_
    rw [h0]
    refine w_imul dX10_odds_217 ?_
    refine w_iload dX10_odds_218 rfl ?_
    refine w_iadd dX10_odds_220 ?_
    rw [m16, nI_add]
    refine w_iald (j := 16 * m + k) dX10_odds_221 (by first | assumption | rfl) rfl rfl (show 16 * m + k < 2048 by omega) (by decide) ?_
    refine w_istore dX10_odds_222 (by decide) rfl ?_
    refine w_iload dX10_odds_224 rfl ?_
    refine w_iload dX10_odds_226 rfl ?_
    refine w_iadd dX10_odds_228 ?_
    refine w_istore dX10_odds_229 (by decide) rfl ?_
    refine w_iload dX10_odds_231 rfl ?_
    refine w_iload dX10_odds_233 rfl ?_
    refine w_iconst (v := 2) dX10_odds_235 (by decide) ?_
    refine w_irem dX10_odds_236 (by decide) ?_
    rw [rem2 (by omega)]
    refine w_iconst (v := 1) dX10_odds_237 (by decide) ?_
    refine w_icmp_ne (tgt := 246) dX10_odds_238 (by decide) (fun c_238 => ?_) (fun c_238 => ?_)
    · refine w_iconst (v := 0) dX10_odds_246 (by decide) ?_
      refine w_iadd dX10_odds_247 ?_
      refine w_istore dX10_odds_248 (by decide) rfl ?_
      refine w_iincv (c := 1) dX10_odds_250 (by decide) rfl (by decide) rfl ?_
      refine w_goto (tgt := 198) dX10_odds_253 (by decide) ?_
      rw [if_neg (fun q => c_238 (by rw [q]; rfl))] at hx
      rw [nI_1]
      exact ih (k + 1) _ _ (by omega) (by omega) hx
    · refine w_iload dX10_odds_241 rfl ?_
      refine w_goto (tgt := 247) dX10_odds_243 (by decide) ?_
      refine w_iadd dX10_odds_247 ?_
      refine w_istore dX10_odds_248 (by decide) rfl ?_
      refine w_iincv (c := 1) dX10_odds_250 (by decide) rfl (by decide) rfl ?_
      refine w_goto (tgt := 198) dX10_odds_253 (by decide) ?_
      rw [if_pos (nI_inj (by omega) (by decide) c_238)] at hx
      rw [nI_1]
      exact ih (k + 1) _ _ (by omega) (by omega) hx
set_option maxHeartbeats 4000000 in
set_option maxRecDepth 100000 in
theorem l_od_106 {I : Mem} {J : Lng} {N m j G : Nat} {u : Bool} (hP : PW (I 92) N m) (hj : j < N) (hG : G ≤ 5040) {f : Int32} : ∀ (r i : Nat) (I1 : Mem) (x5 x6 x7 : Option Value), 16 * m - i = r → i ≤ 16 * m → Mr MSS I I1 → OI (ohl (I 92) N) j m G i (I1 99) → q_w yX10_odds.cls yX10_odds.name cX10_odds 8 .ireturn 6 (fun st I2 J1 => ∃ v : Int32, st = [.int v] ∧ (some (Value.int v) = some (.int (nI (mfr G (fac (pop m)) u))) ∧ J1 = J ∧ Mr MSS I I2)) 106 [some (.ref 89), some (.int (nI j)), some (.int (zB u)), some (.int (f)), some (.int (nI i)), x5, x6, x7] [] (I1) (J) := by
  have h7 := hP.2.1
  have hm := p2_128 h7 hP.2.2.2.1
  intro r
  induction r with
  | zero =>
    intro i I1 x5 x6 x7 hr hi hM hO
    obtain rfl : i = 16 * m := by omega
    have h92 : I1 92 = I 92 := hM.1 92 (by decide) (by decide)
    have h0 : I1 92 0 = nI m := by rw [h92]; exact hP.2.2.1
    refine w_iload dX10_odds_106 rfl ?_
    refine w_bipush (v := 16) dX10_odds_108 (by decide) ?_
    refine w_aload_n dX10_odds_110 rfl ?_
    refine w_getR dX10_odds_111 f_X10_16 (by first | assumption | rfl) rfl rfl ?_
    refine w_iconst (v := 0) dX10_odds_114 (by decide) ?_
    refine w_iald (j := 0) dX10_odds_115 (by first | assumption | rfl) rfl rfl (by decide) (by decide) ?_
    refine w_imul dX10_odds_116 ?_
    rw [h0, m16]
    refine w_icmp_ge (tgt := 189) dX10_odds_117 (by decide) (fun c_117 => ?_) (fun c_117 => absurd (Int32.le_refl _) c_117)
    refine w_iconst (v := 0) dX10_odds_189 (by decide) ?_
    refine w_istore dX10_odds_190 (by decide) rfl ?_
    refine w_iconst (v := 0) dX10_odds_192 (by decide) ?_
    refine w_istore dX10_odds_193 (by decide) rfl ?_
    refine w_iconst (v := 0) dX10_odds_195 (by decide) ?_
    refine w_istore dX10_odds_196 (by decide) rfl ?_
    exact l_od_198 hm hG h0 hM 16 0 (0, 0) _ rfl (by decide) (hO.last hm)
  | succ r ih =>
    intro i I1 x5 x6 x7 hr hi hM hO
    have him : i < 16 * m := by omega
    have h92 : I1 92 = I 92 := hM.1 92 (by decide) (by decide)
    have h0 : I1 92 0 = nI m := by rw [h92]; exact hP.2.2.1
    obtain ⟨hno, hye⟩ := hO.next hm him
    refine w_iload dX10_odds_106 rfl ?_
    refine w_bipush (v := 16) dX10_odds_108 (by decide) ?_
    refine w_aload_n dX10_odds_110 rfl ?_
    refine w_getR dX10_odds_111 f_X10_16 (by first | assumption | rfl) rfl rfl ?_
    refine w_iconst (v := 0) dX10_odds_114 (by decide) ?_
    refine w_iald (j := 0) dX10_odds_115 (by first | assumption | rfl) rfl rfl (by decide) (by decide) ?_
    refine w_imul dX10_odds_116 ?_
    rw [h0, m16]
    refine w_icmp_ge (tgt := 189) dX10_odds_117 (by decide) (fun c_117 => absurd c_117 (nI_ge him (by omega))) (fun c_117 => ?_)
    refine w_aload_n dX10_odds_120 rfl ?_
    refine w_getR dX10_odds_121 f_X10_38 (by first | assumption | rfl) rfl rfl ?_
    refine w_iload dX10_odds_124 rfl ?_
    refine w_iald (j := i) dX10_odds_126 (by first | assumption | rfl) rfl rfl (show i < 2048 by omega) (by decide) ?_
    refine w_if_le (tgt := 183) dX10_odds_127 (by decide) (fun c_127 => ?_) (fun c_127 => ?_)
    · refine w_iincv (c := 1) dX10_odds_183 (by decide) rfl (by decide) rfl ?_
      refine w_goto (tgt := 106) dX10_odds_186 (by decide) ?_
      rw [nI_1]
      exact ih (i + 1) I1 _ _ _ (by omega) (by omega) hM (hno (i_nl c_127))
    · obtain ⟨hos, hon⟩ := hye (i_lt c_127)
      have hon := hon N h7 hP.2.2.2.1
      refine w_iload dX10_odds_130 rfl ?_
      refine w_bipush (v := 16) dX10_odds_132 (by decide) ?_
      refine w_irem dX10_odds_134 (by decide) ?_
      rw [rem16 (by omega)]
      refine w_iconst (v := 2) dX10_odds_135 (by decide) ?_
      refine w_idiv dX10_odds_136 (by decide) ?_
      rw [div2 (by omega)]
      refine w_istore dX10_odds_137 (by decide) rfl ?_
      refine w_aload_n dX10_odds_139 rfl ?_
      refine w_iload_n dX10_odds_140 rfl ?_
      refine w_iload dX10_odds_141 rfl ?_
      refine w_bipush (v := 16) dX10_odds_143 (by decide) ?_
      refine w_idiv dX10_odds_145 (by decide) ?_
      rw [div16 (by omega)]
      refine w_iload dX10_odds_146 rfl ?_
      refine w_bipush (v := 7) dX10_odds_148 (by decide) ?_
      refine w_icmp_ne (tgt := 158) dX10_odds_150 (by decide) (fun c_150 => ?_) (fun c_150 => ?_)
      · refine w_iload dX10_odds_158 rfl ?_
        refine w_iload dX10_odds_160 rfl ?_
        refine w_iconst (v := 2) dX10_odds_162 (by decide) ?_
        refine w_irem dX10_odds_163 (by decide) ?_
        rw [rem2 (by omega)]
        refine w_iconst (v := 1) dX10_odds_164 (by decide) ?_
        refine w_icmp_ne (tgt := 172) dX10_odds_165 (by decide) (fun c_165 => ?_) (fun c_165 => ?_)
        · refine w_iconst (v := 0) dX10_odds_172 (by decide) ?_
          refine w_aload_n dX10_odds_173 rfl ?_
          refine w_getR dX10_odds_174 f_X10_38 (by first | assumption | rfl) rfl rfl ?_
          refine w_iload dX10_odds_177 rfl ?_
          refine w_iald (j := i) dX10_odds_179 (by first | assumption | rfl) rfl rfl (show i < 2048 by omega) (by decide) ?_
          have eh : ho (i % 16 / 2) = some (i % 16 / 2) := if_neg (fun q => c_150 (by rw [q]; rfl))
          have ee : decide (i % 2 = 1) = false := by simpa using (show ¬ i % 2 = 1 from fun q => c_165 (by rw [q]; rfl))
          obtain ⟨ho1, ho2, ho3⟩ := hos
          rw [eh] at ho3
          rw [eh, ee] at hon
          have hgo := c_X10_goOn (I := I1) (J := J) (t := j) (d := i / 16) (h := some (i % 16 / 2)) (e := false) (v := I1 99 i) (by rw [h92]; exact hP) (by omega) ho1 ho3
          rw [h92] at hgo
          refine w_callVF dX10_odds_180 k_X10_165 (by first | assumption | rfl) rfl (hgo) rfl rfl rfl (Nat.le_of_ble_eq_true rfl) (by first | decide | omega) (fun r_180 I_180 J_180 h_180 => ?_)
          obtain ⟨rfl, hJ, hM2, h99⟩ := h_180
          subst J_180
          refine w_iincv (c := 1) dX10_odds_183 (by decide) rfl (by decide) rfl ?_
          refine w_goto (tgt := 106) dX10_odds_186 (by decide) ?_
          rw [nI_1]
          exact ih (i + 1) I_180 _ _ _ (by omega) (by omega) (hM.tr hM2) (by rw [h99]; exact hon)
        · refine w_iconst (v := 1) dX10_odds_168 (by decide) ?_
          refine w_goto (tgt := 173) dX10_odds_169 (by decide) ?_
          refine w_aload_n dX10_odds_173 rfl ?_
          refine w_getR dX10_odds_174 f_X10_38 (by first | assumption | rfl) rfl rfl ?_
          refine w_iload dX10_odds_177 rfl ?_
          refine w_iald (j := i) dX10_odds_179 (by first | assumption | rfl) rfl rfl (show i < 2048 by omega) (by decide) ?_
          have eh : ho (i % 16 / 2) = some (i % 16 / 2) := if_neg (fun q => c_150 (by rw [q]; rfl))
          have ee : decide (i % 2 = 1) = true := by simpa using (show i % 2 = 1 from nI_inj (by omega) (by decide) c_165)
          obtain ⟨ho1, ho2, ho3⟩ := hos
          rw [eh] at ho3
          rw [eh, ee] at hon
          have hgo := c_X10_goOn (I := I1) (J := J) (t := j) (d := i / 16) (h := some (i % 16 / 2)) (e := true) (v := I1 99 i) (by rw [h92]; exact hP) (by omega) ho1 ho3
          rw [h92] at hgo
          refine w_callVF dX10_odds_180 k_X10_165 (by first | assumption | rfl) rfl (hgo) rfl rfl rfl (Nat.le_of_ble_eq_true rfl) (by first | decide | omega) (fun r_180 I_180 J_180 h_180 => ?_)
          obtain ⟨rfl, hJ, hM2, h99⟩ := h_180
          subst J_180
          refine w_iincv (c := 1) dX10_odds_183 (by decide) rfl (by decide) rfl ?_
          refine w_goto (tgt := 106) dX10_odds_186 (by decide) ?_
          rw [nI_1]
          exact ih (i + 1) I_180 _ _ _ (by omega) (by omega) (hM.tr hM2) (by rw [h99]; exact hon)
      · refine w_bipush (v := (-9)) dX10_odds_153 (by decide) ?_
        refine w_goto (tgt := 160) dX10_odds_155 (by decide) ?_
        refine w_iload dX10_odds_160 rfl ?_
        refine w_iconst (v := 2) dX10_odds_162 (by decide) ?_
        refine w_irem dX10_odds_163 (by decide) ?_
        rw [rem2 (by omega)]
        refine w_iconst (v := 1) dX10_odds_164 (by decide) ?_
        refine w_icmp_ne (tgt := 172) dX10_odds_165 (by decide) (fun c_165 => ?_) (fun c_165 => ?_)
        · refine w_iconst (v := 0) dX10_odds_172 (by decide) ?_
          refine w_aload_n dX10_odds_173 rfl ?_
          refine w_getR dX10_odds_174 f_X10_38 (by first | assumption | rfl) rfl rfl ?_
          refine w_iload dX10_odds_177 rfl ?_
          refine w_iald (j := i) dX10_odds_179 (by first | assumption | rfl) rfl rfl (show i < 2048 by omega) (by decide) ?_
          have eh : ho (i % 16 / 2) = none := if_pos (nI_inj (by omega) (by decide) c_150)
          have ee : decide (i % 2 = 1) = false := by simpa using (show ¬ i % 2 = 1 from fun q => c_165 (by rw [q]; rfl))
          obtain ⟨ho1, ho2, ho3⟩ := hos
          rw [eh] at ho3
          rw [eh, ee] at hon
          have hgo := c_X10_goOn (I := I1) (J := J) (t := j) (d := i / 16) (h := none) (e := false) (v := I1 99 i) (by rw [h92]; exact hP) (by omega) ho1 ho3
          rw [h92] at hgo
          refine w_callVF dX10_odds_180 k_X10_165 (by first | assumption | rfl) rfl (hgo) rfl rfl rfl (Nat.le_of_ble_eq_true rfl) (by first | decide | omega) (fun r_180 I_180 J_180 h_180 => ?_)
          obtain ⟨rfl, hJ, hM2, h99⟩ := h_180
          subst J_180
          refine w_iincv (c := 1) dX10_odds_183 (by decide) rfl (by decide) rfl ?_
          refine w_goto (tgt := 106) dX10_odds_186 (by decide) ?_
          rw [nI_1]
          exact ih (i + 1) I_180 _ _ _ (by omega) (by omega) (hM.tr hM2) (by rw [h99]; exact hon)
        · refine w_iconst (v := 1) dX10_odds_168 (by decide) ?_
          refine w_goto (tgt := 173) dX10_odds_169 (by decide) ?_
          refine w_aload_n dX10_odds_173 rfl ?_
          refine w_getR dX10_odds_174 f_X10_38 (by first | assumption | rfl) rfl rfl ?_
          refine w_iload dX10_odds_177 rfl ?_
          refine w_iald (j := i) dX10_odds_179 (by first | assumption | rfl) rfl rfl (show i < 2048 by omega) (by decide) ?_
          have eh : ho (i % 16 / 2) = none := if_pos (nI_inj (by omega) (by decide) c_150)
          have ee : decide (i % 2 = 1) = true := by simpa using (show i % 2 = 1 from nI_inj (by omega) (by decide) c_165)
          obtain ⟨ho1, ho2, ho3⟩ := hos
          rw [eh] at ho3
          rw [eh, ee] at hon
          have hgo := c_X10_goOn (I := I1) (J := J) (t := j) (d := i / 16) (h := none) (e := true) (v := I1 99 i) (by rw [h92]; exact hP) (by omega) ho1 ho3
          rw [h92] at hgo
          refine w_callVF dX10_odds_180 k_X10_165 (by first | assumption | rfl) rfl (hgo) rfl rfl rfl (Nat.le_of_ble_eq_true rfl) (by first | decide | omega) (fun r_180 I_180 J_180 h_180 => ?_)
          obtain ⟨rfl, hJ, hM2, h99⟩ := h_180
          subst J_180
          refine w_iincv (c := 1) dX10_odds_183 (by decide) rfl (by decide) rfl ?_
          refine w_goto (tgt := 106) dX10_odds_186 (by decide) ?_
          rw [nI_1]
          exact ih (i + 1) I_180 _ _ _ (by omega) (by omega) (hM.tr hM2) (by rw [h99]; exact hon)
set_option maxHeartbeats 4000000 in
set_option maxRecDepth 100000 in
theorem l_od_40 {I M : Mem} {J : Lng} {m j G : Nat} {u : Bool} (K : ∀ x3 : Option Value, q_w yX10_odds.cls yX10_odds.name cX10_odds 8 .ireturn 6 (fun st I2 J1 => ∃ v : Int32, st = [.int v] ∧ (some (Value.int v) = some (.int (nI (mfr G (fac (pop m)) u))) ∧ J1 = J ∧ Mr MSS I I2)) 60 [some (.ref 89), some (.int (nI j)), some (.int (zB u)), x3, none, none, none, none] [] (upR M 99 (fil (M 99) 0 2048)) (J)) : ∀ (r k : Nat), 2048 - k = r → k ≤ 2048 → q_w yX10_odds.cls yX10_odds.name cX10_odds 8 .ireturn 6 (fun st I2 J1 => ∃ v : Int32, st = [.int v] ∧ (some (Value.int v) = some (.int (nI (mfr G (fac (pop m)) u))) ∧ J1 = J ∧ Mr MSS I I2)) 40 [some (.ref 89), some (.int (nI j)), some (.int (zB u)), some (.int (nI k)), none, none, none, none] [] (upR M 99 (fil (M 99) 0 k)) (J) := by
  intro r
  induction r with
  | zero =>
    intro k hr hk
    obtain rfl : k = 2048 := by omega
    refine w_iload_n dX10_odds_40 rfl ?_
    refine w_sipush (v := 2048) dX10_odds_41 (by decide) ?_
    refine w_icmp_ge (tgt := 60) dX10_odds_44 (by decide) (fun c_44 => ?_) (fun c_44 => absurd (show (2048 : Int32) ≤ nI 2048 by decide) c_44)
    exact K _
  | succ r ih =>
    intro k hr hk
    have hk2 : k < 2048 := by omega
    refine w_iload_n dX10_odds_40 rfl ?_
    refine w_sipush (v := 2048) dX10_odds_41 (by decide) ?_
    refine w_icmp_ge (tgt := 60) dX10_odds_44 (by decide) (fun c_44 => absurd c_44 (nI_ge (b := 2048) hk2 (by decide))) (fun c_44 => ?_)
    refine w_aload_n dX10_odds_47 rfl ?_
    refine w_getR dX10_odds_48 f_X10_38 (by first | assumption | rfl) rfl rfl ?_
    refine w_iload_n dX10_odds_51 rfl ?_
    refine w_iconst (v := 0) dX10_odds_52 (by decide) ?_
    refine w_iast (j := k) dX10_odds_53 (by first | assumption | rfl) rfl rfl (show k < 2048 by omega) (by decide) ?_
    rw [fil_s]
    refine w_iincv (c := 1) dX10_odds_54 (by decide) rfl (by decide) rfl ?_
    refine w_goto (tgt := 40) dX10_odds_57 (by decide) ?_
    rw [nI_1]
    exact ih (k + 1) (by omega) (by omega)
set_option maxHeartbeats 4000000 in
set_option maxRecDepth 100000 in
theorem c_X10_odds {I : Mem} {J : Lng} {N m : Nat} (hP : PW (I 92) N m) {p : Int32} {u : Bool} {j : Nat} (hp : pin p N = some j) (hl : m.testBit j = true) : q_F yX10_odds cX10_odds 8 (some .int) 6 [.ref 89, .int p, .int (zB u)] I J (fun r I1 J1 => r = some (.int (nI (mfr (Gt (ohl (I 92) N) j m (phd (I 92))) (fac (pop m)) u))) ∧ J1 = J ∧ Mr MSS I I1) := by
  have hnp := c_X10_noPerson (I := upI I 89 0 0) (J := J) (N := N) (by rw [t0_92]; exact hP.1) hP.2.1 (p := p)
  rw [hp] at hnp
  have h7 := hP.2.1
  have hm := p2_128 h7 hP.2.2.2.1
  obtain ⟨hj, rfl⟩ := pin_some (by omega) hp
  have hhas := c_X10_has (I := upI I 89 0 0) (J := J) (s := nI m) (k := nI j)
  rw [mI_bit m hm j (by omega), hl] at hhas
  have h0 : I 92 0 = nI m := hP.2.2.1
  obtain ⟨hp1, hp2⟩ := phd_ok hP
  have hG : Gt (ohl (I 92) N) j m (phd (I 92)) ≤ 5040 := Gt_le hm
  refine q_Fi me_X10_odds rfl (Nat.le_of_ble_eq_true rfl) ?_
  show q_w _ _ _ _ _ _ _ 0 [some (.ref 89), some (.int (nI j)), some (.int (zB u)), none, none, none, none, none] [] I J
  refine w_aload_n dX10_odds_0 rfl ?_
  refine w_iconst (v := 0) dX10_odds_1 (by decide) ?_
  refine w_putI dX10_odds_2 f_X10_41 (by first | assumption | rfl) rfl ?_
  refine w_aload_n dX10_odds_5 rfl ?_
  refine w_iload_n dX10_odds_6 rfl ?_
  refine w_callVi dX10_odds_7 k_X10_104 (by first | assumption | rfl) rfl (hnp) rfl rfl rfl (Nat.le_of_ble_eq_true rfl) (by first | decide | omega) ?_
  refine w_if_eq (tgt := 15) dX10_odds_10 (by decide) (fun c_10 => ?_) (fun c_10 => absurd (rfl : zB false = 0) c_10)
  refine w_aload_n dX10_odds_15 rfl ?_
  refine w_getR dX10_odds_16 f_X10_16 (by first | assumption | rfl) rfl rfl ?_
  refine w_iconst (v := 0) dX10_odds_19 (by decide) ?_
  refine w_iald (j := 0) dX10_odds_20 (by first | assumption | rfl) rfl rfl (by decide) (by decide) ?_
  rw [t0_92, h0]
  refine w_iload_n dX10_odds_21 rfl ?_
  refine w_callSi dX10_odds_22 k_X10_82 (hhas) rfl rfl rfl (Nat.le_of_ble_eq_true rfl) (by first | decide | omega) ?_
  refine w_if_ne (tgt := 38) dX10_odds_25 (by decide) (fun c_25 => ?_) (fun c_25 => absurd c_25 (by decide))
  refine w_iconst (v := 0) dX10_odds_38 (by decide) ?_
  refine w_istore_n dX10_odds_39 (by decide) rfl ?_
  have hO := OI.first (hl := ohl (I 92) N) (p := j) (f := (upI I 89 0 0) 99) (h := phd (I 92)) hm (fun y hy => ⟨by have := (hp2 y hy).1; omega, (hp2 y hy).2⟩)
  have h1 : (upR (upI I 89 0 0) 99 (fil ((upI I 89 0 0) 99) 0 2048)) 92 1 = oI (phd (I 92)) := by rw [upR_ne (by decide), t0_92]; exact hp1
  have hf := fun K => l_od_40 (I := I) (M := upI I 89 0 0) (J := J) (m := m) (j := j) (G := Gt (ohl (I 92) N) j m (phd (I 92))) (u := u) K 2048 0 rfl (by decide)
  rw [fil_0, upR_id] at hf
  refine hf (fun x3 => ?_)
  cases eo : phd (I 92) with
  | none =>
    rw [eo] at h1
    refine w_aload_n dX10_odds_60 rfl ?_
    refine w_getR dX10_odds_61 f_X10_16 (by first | assumption | rfl) rfl rfl ?_
    refine w_iconst (v := 1) dX10_odds_64 (by decide) ?_
    refine w_iald (j := 1) dX10_odds_65 (by first | assumption | rfl) rfl rfl (by decide) (by decide) ?_
    rw [h1]
    refine w_bipush (v := (-9)) dX10_odds_66 (by decide) ?_
    refine w_icmp_ne (tgt := 76) dX10_odds_68 (by decide) (fun c_68 => absurd c_68 (fun q => q rfl)) (fun c_68 => ?_)
    refine w_bipush (v := 7) dX10_odds_71 (by decide) ?_
    refine w_goto (tgt := 82) dX10_odds_73 (by decide) ?_
    skip
    refine w_istore_n dX10_odds_82 (by decide) rfl ?_
    refine w_aload_n dX10_odds_83 rfl ?_
    refine w_getR dX10_odds_84 f_X10_38 (by first | assumption | rfl) rfl rfl ?_
    refine w_iconst (v := 2) dX10_odds_87 (by decide) ?_
    refine w_iload_n dX10_odds_88 rfl ?_
    refine w_imul dX10_odds_89 ?_
    refine w_iload_n dX10_odds_90 rfl ?_
    refine w_iload_n dX10_odds_91 rfl ?_
    refine w_icmp_ne (tgt := 99) dX10_odds_92 (by decide) (fun c_92 => ?_) (fun c_92 => ?_)
    · refine w_iconst (v := 0) dX10_odds_99 (by decide) ?_
      refine w_iadd dX10_odds_100 ?_
      refine w_iconst (v := 1) dX10_odds_101 (by decide) ?_
      refine w_iast (j := 2 * 7 + 0) dX10_odds_102 (by first | assumption | rfl) rfl (by decide) (show 2 * 7 + 0 < 2048 by omega) (by decide) ?_
      refine w_iconst (v := 0) dX10_odds_103 (by decide) ?_
      refine w_istore dX10_odds_104 (by decide) rfl ?_
      rw [show phd (I 92) = (none : Option Nat) from eo] at hO hG
      rw [if_neg (show ¬ (none : Option Nat) = some j by simp)] at hO
      exact l_od_106 hP hj hG (16 * m) 0 _ _ _ _ (by omega) (Nat.zero_le _) (((Mr.rf.f (by decide)).ur (by decide) (by decide)).up (by decide) (by decide)) (by rw [upI_self, upR_t]; exact hO)
    · refine w_iconst (v := 1) dX10_odds_95 (by decide) ?_
      refine w_goto (tgt := 100) dX10_odds_96 (by decide) ?_
      refine w_iadd dX10_odds_100 ?_
      refine w_iconst (v := 1) dX10_odds_101 (by decide) ?_
      refine w_iast (j := 2 * 7 + 1) dX10_odds_102 (by first | assumption | rfl) rfl (by decide) (show 2 * 7 + 1 < 2048 by omega) (by decide) ?_
      refine w_iconst (v := 0) dX10_odds_103 (by decide) ?_
      refine w_istore dX10_odds_104 (by decide) rfl ?_
      exact absurd (nI_inj (a := 7) (by decide) (by omega) c_92) (by omega)
  | some x =>
    rw [eo] at h1
    have hx := hp2 x eo
    refine w_aload_n dX10_odds_60 rfl ?_
    refine w_getR dX10_odds_61 f_X10_16 (by first | assumption | rfl) rfl rfl ?_
    refine w_iconst (v := 1) dX10_odds_64 (by decide) ?_
    refine w_iald (j := 1) dX10_odds_65 (by first | assumption | rfl) rfl rfl (by decide) (by decide) ?_
    rw [h1]
    refine w_bipush (v := (-9)) dX10_odds_66 (by decide) ?_
    refine w_icmp_ne (tgt := 76) dX10_odds_68 (by decide) (fun c_68 => ?_) (fun c_68 => absurd c_68 (nI_ne9 (by omega)))
    refine w_aload_n dX10_odds_76 rfl ?_
    refine w_getR dX10_odds_77 f_X10_16 (by first | assumption | rfl) rfl rfl ?_
    refine w_iconst (v := 1) dX10_odds_80 (by decide) ?_
    refine w_iald (j := 1) dX10_odds_81 (by first | assumption | rfl) rfl rfl (by decide) (by decide) ?_
    rw [h1]
    refine w_istore_n dX10_odds_82 (by decide) rfl ?_
    refine w_aload_n dX10_odds_83 rfl ?_
    refine w_getR dX10_odds_84 f_X10_38 (by first | assumption | rfl) rfl rfl ?_
    refine w_iconst (v := 2) dX10_odds_87 (by decide) ?_
    refine w_iload_n dX10_odds_88 rfl ?_
    refine w_imul dX10_odds_89 ?_
    refine w_iload_n dX10_odds_90 rfl ?_
    refine w_iload_n dX10_odds_91 rfl ?_
    refine w_icmp_ne (tgt := 99) dX10_odds_92 (by decide) (fun c_92 => ?_) (fun c_92 => ?_)
    · refine w_iconst (v := 0) dX10_odds_99 (by decide) ?_
      refine w_iadd dX10_odds_100 ?_
      refine w_iconst (v := 1) dX10_odds_101 (by decide) ?_
      refine w_iast (j := 2 * x + 0) dX10_odds_102 (by first | assumption | rfl) rfl (show (2 : Int32) * nI x + 0 = nI (2 * x + 0) by rw [show (2 : Int32) * nI x = nI (2 * x) from pk_mul 2 x, Int32.add_zero, Nat.add_zero]) (show 2 * x + 0 < 2048 by omega) (by decide) ?_
      refine w_iconst (v := 0) dX10_odds_103 (by decide) ?_
      refine w_istore dX10_odds_104 (by decide) rfl ?_
      rw [show phd (I 92) = some x from eo] at hO hG
      rw [if_neg (show ¬ some x = some j from fun q => c_92 (by rw [Option.some.inj q]; rfl))] at hO
      exact l_od_106 hP hj hG (16 * m) 0 _ _ _ _ (by omega) (Nat.zero_le _) (((Mr.rf.f (by decide)).ur (by decide) (by decide)).up (by decide) (by decide)) (by rw [upI_self, upR_t]; exact hO)
    · refine w_iconst (v := 1) dX10_odds_95 (by decide) ?_
      refine w_goto (tgt := 100) dX10_odds_96 (by decide) ?_
      refine w_iadd dX10_odds_100 ?_
      refine w_iconst (v := 1) dX10_odds_101 (by decide) ?_
      refine w_iast (j := 2 * x + 1) dX10_odds_102 (by first | assumption | rfl) rfl (show (2 : Int32) * nI x + 1 = nI (2 * x + 1) by rw [show (2 : Int32) * nI x = nI (2 * x) from pk_mul 2 x, nI_1]) (show 2 * x + 1 < 2048 by omega) (by decide) ?_
      refine w_iconst (v := 0) dX10_odds_103 (by decide) ?_
      refine w_istore dX10_odds_104 (by decide) rfl ?_
      rw [show phd (I 92) = some x from eo] at hO hG
      rw [if_pos (show some x = some j by rw [nI_inj (by omega) (by omega) c_92])] at hO
      exact l_od_106 hP hj hG (16 * m) 0 _ _ _ _ (by omega) (Nat.zero_le _) (((Mr.rf.f (by decide)).ur (by decide) (by decide)).up (by decide) (by decide)) (by rw [upI_self, upR_t]; exact hO)
