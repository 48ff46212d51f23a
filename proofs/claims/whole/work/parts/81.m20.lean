theorem ix_16 {a b : Nat} : (16 : Int32) * nI a + 2 * nI b = nI (16 * a + 2 * b) := by rw [show (16 : Int32) * nI a = nI (16 * a) from pk_mul 16 a, show (2 : Int32) * nI b = nI (2 * b) from pk_mul 2 b, nI_add]
theorem pdie_1 {a : Nat → Int32} {n m j : Nat} : pdie a n m j 1 = if a 1 = nI j then oI (phr a n (a 2) j (mclr m j)) else a 1 := by
  unfold pdie
  split
  · rw [upd_n (by decide), upd_s]
  · rw [upd_n (by decide)]
theorem PW.sh {a : Nat → Int32} {n m S : Nat} {h : Option Nat} (hP : PW a n m) (hS : S < 2 ^ n) (hh : ∀ y, h = some y → y < 7 ∧ S.testBit y = true) : PW (upd (upd a 0 (nI S)) 1 (oI h)) n S := by
  obtain ⟨h1, h2, h3, h4, h5, h6, h7, h8, h9, h10⟩ := hP
  refine ⟨h1, h2, rfl, hS, fun k hk => ?_, ?_, h7, h8, h9, h10⟩
  · dsimp only
    rw [upd_n (by omega), upd_n (by omega)]; exact h5 k hk
  · rw [upd_s]
    cases h with
    | none => exact Or.inl rfl
    | some y => exact Or.inr ⟨y, p2_bit hS (hh y rfl).2, (hh y rfl).2, rfl⟩
theorem phe_sh {a b : Nat → Int32} {n m S : Nat} {v0 v1 : Int32} (hP : PW a n m) (hq : Peq n (upd (upd a 0 v0) 1 v1) b) {tie : Int32} {j : Nat} (hj : j < n) : phe b n tie j = phe a n tie j := by
  have h7 := hP.2.1
  have h14 : b 14 = a 14 := by rw [hq.2.1, upd_n (by decide), upd_n (by decide)]
  refine (she_congr h7 hP.2.2.2.2.1 (fun k hk => ?_) (fun k hk => ?_) (fun k hk => ?_) hj).symm
  · show a (7 + k) = b (7 + k)
    rw [(hq.2.2 k hk).1, upd_n (by omega), upd_n (by omega)]
  · unfold pw; rw [h14]
  · show a (15 + k) = b (15 + k)
    rw [(hq.2.2 k hk).2, upd_n (by omega), upd_n (by omega)]
theorem onx_pdie {a b : Nat → Int32} {N m S k : Nat} {h : Option Nat} (hP : PW a N m) (hk : k < N) (hh : ∀ y, h = some y → y < 7 ∧ S.testBit y = true) (hq : Peq N (upd (upd a 0 (nI S)) 1 (oI h)) b) : pdie b N S k 1 = oI (onx (ohl a N) S h k) := by
  have h7 := hP.2.1
  rw [pdie_1, hq.1 1 (by decide), hq.1 2 (by decide), upd_s, upd_n (show (2 : Nat) ≠ 1 by decide), upd_n (show (2 : Nat) ≠ 0 by decide)]
  unfold onx
  by_cases e : h = some k
  · rw [if_pos e, e, if_pos (show oI (some k) = nI k from rfl)]
    unfold phr ohl
    rw [if_pos hk, phe_sh (m := m) (S := S) hP hq hk]
  · rw [if_neg e, if_neg]
    intro q
    cases h with
    | none => exact absurd q.symm (nI_ne9 (by omega))
    | some y => exact e (by rw [nI_inj (by have := (hh y rfl).1; omega) (by omega) q])
set_option maxHeartbeats 4000000 in
set_option maxRecDepth 100000 in
theorem l_go_106 {I M : Mem} {J : Lng} {Z : Nat → Int32} {t d k b : Nat} {h o : Option Nat} {e : Bool} {v : Int32} {x8 : Option Value} (hd : d < 128) (hk : k < 7) (ho : oN o ≤ 7) (hb : b = 0 ∨ b = 1) (K : ∀ x8 : Option Value, q_w yX10_goOn.cls yX10_goOn.name cX10_goOn 9 .return_ 5 (fun st I2 J1 => st = [] ∧ (none : Option Value) = none ∧ J1 = J ∧ Mr MSS I I2 ∧ I2 99 = Z) 3 [some (.ref 89), some (.int (nI t)), some (.int (nI d)), some (.int (oI h)), some (.int (zB e)), some (.int (v)), some (.int (nI (k + 1))), some (.int (nI (oN o))), x8] [] (upI M 99 (16 * mset d k + 2 * oN o + b) (M 99 (16 * mset d k + 2 * oN o + b) + v)) (J)) : q_w yX10_goOn.cls yX10_goOn.name cX10_goOn 9 .return_ 5 (fun st I2 J1 => st = [] ∧ (none : Option Value) = none ∧ J1 = J ∧ Mr MSS I I2 ∧ I2 99 = Z) 106 [some (.ref 89), some (.int (nI t)), some (.int (nI d)), some (.int (oI h)), some (.int (zB e)), some (.int (v)), some (.int (nI k)), some (.int (nI (oN o))), x8] [.int (nI b)] (M) (J) := by
  have hmd := mset_lt d hd k hk
  rcases hb with rfl | rfl
  · refine w_istore dX10_goOn_106 (by decide) rfl ?_
    refine w_aload_n dX10_goOn_108 rfl ?_
    refine w_getR dX10_goOn_109 f_X10_38 (by first | assumption | rfl) rfl rfl ?_
    refine w_bipush (v := 16) dX10_goOn_112 (by decide) ?_
    refine w_iload_n dX10_goOn_114 rfl ?_
    refine w_iconst (v := 1) dX10_goOn_115 (by decide) ?_
    refine w_iload dX10_goOn_116 rfl ?_
    refine w_ishl dX10_goOn_118 ?_
    refine w_ior dX10_goOn_119 ?_
    rw [mI_set d hd k hk]
    refine w_imul dX10_goOn_120 ?_
    refine w_iconst (v := 2) dX10_goOn_121 (by decide) ?_
    refine w_iload dX10_goOn_122 rfl ?_
    refine w_imul dX10_goOn_124 ?_
    refine w_iadd dX10_goOn_125 ?_
    refine w_iload dX10_goOn_126 rfl ?_
    refine w_if_eq (tgt := 135) dX10_goOn_128 (by decide) (fun c_128 => ?_) (fun c_128 => absurd rfl c_128)
    refine w_iconst (v := 0) dX10_goOn_135 (by decide) ?_
    refine w_iadd dX10_goOn_136 ?_
    refine w_dup2 dX10_goOn_137 rfl rfl ?_
    refine w_iald (j := 16 * mset d k + 2 * oN o + 0) dX10_goOn_138 (by first | assumption | rfl) rfl (by rw [ix_16, Int32.add_zero, Nat.add_zero]) (show 16 * mset d k + 2 * oN o + 0 < 2048 by omega) (by decide) ?_
    refine w_iload dX10_goOn_139 rfl ?_
    refine w_iadd dX10_goOn_141 ?_
    refine w_iast (j := 16 * mset d k + 2 * oN o + 0) dX10_goOn_142 (by first | assumption | rfl) rfl (by rw [ix_16, Int32.add_zero, Nat.add_zero]) (show 16 * mset d k + 2 * oN o + 0 < 2048 by omega) (by decide) ?_
    refine w_iincv (c := 1) dX10_goOn_143 (by decide) rfl (by decide) rfl ?_
    refine w_goto (tgt := 3) dX10_goOn_146 (by decide) ?_
    rw [nI_1]
    exact K _
  · refine w_istore dX10_goOn_106 (by decide) rfl ?_
    refine w_aload_n dX10_goOn_108 rfl ?_
    refine w_getR dX10_goOn_109 f_X10_38 (by first | assumption | rfl) rfl rfl ?_
    refine w_bipush (v := 16) dX10_goOn_112 (by decide) ?_
    refine w_iload_n dX10_goOn_114 rfl ?_
    refine w_iconst (v := 1) dX10_goOn_115 (by decide) ?_
    refine w_iload dX10_goOn_116 rfl ?_
    refine w_ishl dX10_goOn_118 ?_
    refine w_ior dX10_goOn_119 ?_
    rw [mI_set d hd k hk]
    refine w_imul dX10_goOn_120 ?_
    refine w_iconst (v := 2) dX10_goOn_121 (by decide) ?_
    refine w_iload dX10_goOn_122 rfl ?_
    refine w_imul dX10_goOn_124 ?_
    refine w_iadd dX10_goOn_125 ?_
    refine w_iload dX10_goOn_126 rfl ?_
    refine w_if_eq (tgt := 135) dX10_goOn_128 (by decide) (fun c_128 => absurd c_128 (by decide)) (fun c_128 => ?_)
    refine w_iconst (v := 1) dX10_goOn_131 (by decide) ?_
    refine w_goto (tgt := 136) dX10_goOn_132 (by decide) ?_
    refine w_iadd dX10_goOn_136 ?_
    refine w_dup2 dX10_goOn_137 rfl rfl ?_
    refine w_iald (j := 16 * mset d k + 2 * oN o + 1) dX10_goOn_138 (by first | assumption | rfl) rfl (by rw [ix_16, nI_1]) (show 16 * mset d k + 2 * oN o + 1 < 2048 by omega) (by decide) ?_
    refine w_iload dX10_goOn_139 rfl ?_
    refine w_iadd dX10_goOn_141 ?_
    refine w_iast (j := 16 * mset d k + 2 * oN o + 1) dX10_goOn_142 (by first | assumption | rfl) rfl (by rw [ix_16, nI_1]) (show 16 * mset d k + 2 * oN o + 1 < 2048 by omega) (by decide) ?_
    refine w_iincv (c := 1) dX10_goOn_143 (by decide) rfl (by decide) rfl ?_
    refine w_goto (tgt := 3) dX10_goOn_146 (by decide) ?_
    rw [nI_1]
    exact K _
set_option maxHeartbeats 4000000 in
set_option maxRecDepth 100000 in
theorem l_go {I : Mem} {J : Lng} {N m : Nat} (hP : PW (I 92) N m) {Z : Nat → Int32} {t d : Nat} {h : Option Nat} {e : Bool} {v : Int32} (ht : t < 7) (hd : d < 128) (hh : ∀ y, h = some y → y < 7 ∧ (msb m d).testBit y = true) : ∀ (r k : Nat) (I1 : Mem) (x7 x8 : Option Value), N - k = r → k ≤ N → Mr MSS I I1 → mgo (ohl (I 92) N) t (msb m d) d h e v r k (I1 99) = Z → q_w yX10_goOn.cls yX10_goOn.name cX10_goOn 9 .return_ 5 (fun st I2 J1 => st = [] ∧ (none : Option Value) = none ∧ J1 = J ∧ Mr MSS I I2 ∧ I2 99 = Z) 3 [some (.ref 89), some (.int (nI t)), some (.int (nI d)), some (.int (oI h)), some (.int (zB e)), some (.int (v)), some (.int (nI k)), x7, x8] [] (I1) (J) := by
  have h7 := hP.2.1
  have hm := p2_128 h7 hP.2.2.2.1
  have h0 : I 92 0 = nI m := hP.2.2.1
  have hS : msb m d < 128 := Nat.lt_of_le_of_lt (msb_le _ _) hm
  have hSN : msb m d < 2 ^ N := Nat.lt_of_le_of_lt (msb_le _ _) hP.2.2.2.1
  intro r
  induction r with
  | zero =>
    intro k I1 x7 x8 hr hk hM hZ
    obtain rfl : k = N := by omega
    have h92 : I1 92 = I 92 := hM.1 92 (by decide) (by decide)
    have hZ2 : I1 99 = Z := hZ
    refine w_iload dX10_goOn_3 rfl ?_
    refine w_aload_n dX10_goOn_5 rfl ?_
    refine w_getR dX10_goOn_6 f_X10_16 (by first | assumption | rfl) rfl rfl ?_
    refine w_bipush (v := 6) dX10_goOn_9 (by decide) ?_
    refine w_iald (j := 6) dX10_goOn_11 (by first | assumption | rfl) rfl rfl (by decide) (by decide) ?_
    refine w_icmp_ge (tgt := 149) dX10_goOn_12 (by decide) (fun c_12 => ?_) (fun c_12 => absurd (by rw [h92, hP.1]; exact Int32.le_refl _) c_12)
    exact w_ret dX10_goOn_149 ⟨rfl, rfl, rfl, hM, hZ2⟩
  | succ r ih =>
    intro k I1 x7 x8 hr hk hM hZ
    have hkN : k < N := by omega
    have hk7 : k < 7 := by omega
    have h92 : I1 92 = I 92 := hM.1 92 (by decide) (by decide)
    have hhas := c_X10_has (I := I1) (J := J) (s := nI (msb m d)) (k := nI k)
    rw [mI_bit _ hS k hk7] at hhas
    unfold mgo at hZ
    cases hb : (msb m d).testBit k with
    | false =>
      rw [hb] at hhas hZ
      rw [if_neg (by decide)] at hZ
      refine w_iload dX10_goOn_3 rfl ?_
      refine w_aload_n dX10_goOn_5 rfl ?_
      refine w_getR dX10_goOn_6 f_X10_16 (by first | assumption | rfl) rfl rfl ?_
      refine w_bipush (v := 6) dX10_goOn_9 (by decide) ?_
      refine w_iald (j := 6) dX10_goOn_11 (by first | assumption | rfl) rfl rfl (by decide) (by decide) ?_
      rw [h92, hP.1]
      refine w_icmp_ge (tgt := 149) dX10_goOn_12 (by decide) (fun c_12 => absurd c_12 (nI_ge hkN (by omega))) (fun c_12 => ?_)
      refine w_aload_n dX10_goOn_15 rfl ?_
      refine w_getR dX10_goOn_16 f_X10_16 (by first | assumption | rfl) rfl rfl ?_
      refine w_iconst (v := 0) dX10_goOn_19 (by decide) ?_
      refine w_iald (j := 0) dX10_goOn_20 (by first | assumption | rfl) rfl rfl (by decide) (by decide) ?_
      rw [h92, h0]
      refine w_iload_n dX10_goOn_21 rfl ?_
      refine w_iconst (v := (-1)) dX10_goOn_22 (by decide) ?_
      refine w_ixor dX10_goOn_23 ?_
      refine w_iand dX10_goOn_24 ?_
      rw [msb_I m hm d hd]
      refine w_iload dX10_goOn_25 rfl ?_
      refine w_callSi dX10_goOn_27 k_X10_82 (hhas) rfl rfl rfl (Nat.le_of_ble_eq_true rfl) (by first | decide | omega) ?_
      refine w_if_eq (tgt := 143) dX10_goOn_30 (by decide) (fun c_30 => ?_) (fun c_30 => absurd (rfl : zB false = 0) c_30)
      refine w_iincv (c := 1) dX10_goOn_143 (by decide) rfl (by decide) rfl ?_
      refine w_goto (tgt := 3) dX10_goOn_146 (by decide) ?_
      rw [nI_1]
      exact ih (k + 1) I1 _ _ (by omega) (by omega) hM hZ
    | true =>
      rw [hb] at hhas hZ
      rw [if_pos rfl] at hZ
      have hbg := c_X10_begin (I := I1) (J := J)
      have hb0 : (upR I1 93 (cpy (I1 93) (I1 92) 0 0 22)) 93 0 = nI m := by
        have := cpy_in (dst := I1 93) (src := I1 92) (d := 0) (s := 0) (k := 22) (i := 0) (by decide)
        rw [Nat.zero_add] at this
        rw [upR_t, this, h92, h0]
      have hA : (upI (upI (upR I1 93 (cpy (I1 93) (I1 92) 0 0 22)) 93 0 (nI (msb m d))) 93 1 (oI h)) 93 = upd (upd (cpy (I1 93) (I 92) 0 0 22) 0 (nI (msb m d))) 1 (oI h) := by rw [upI_self, upI_self, upR_t, h92]
      have hq : Peq N (upd (upd (I 92) 0 (nI (msb m d))) 1 (oI h)) ((upI (upI (upR I1 93 (cpy (I1 93) (I1 92) 0 0 22)) 93 0 (nI (msb m d))) 93 1 (oI h)) 93) := by
        rw [hA]
        refine ((Peq.of22 h7 (fun q hq => ?_)).up (by decide)).up (by decide)
        have := cpy_in (dst := I1 93) (src := I 92) (d := 0) (s := 0) (k := 22) hq
        rw [Nat.zero_add] at this
        exact this
      have hgd := c_X10_goDie (I := upI (upI (upR I1 93 (cpy (I1 93) (I1 92) 0 0 22)) 93 0 (nI (msb m d))) 93 1 (oI h)) (J := J) (m := msb m d) p93 (hq.wf (hP.sh hSN hh)) hkN
      have hoN : oN (onx (ohl (I 92) N) (msb m d) h k) ≤ 7 := oN_le (fun x hx => (onx_some hS hk7 hh hx).1)
      have hox := fun x hx => (onx_some (hl := ohl (I 92) N) (x := x) hS hk7 hh hx).1
      cases eo : onx (ohl (I 92) N) (msb m d) h k with
      | none =>
        refine w_iload dX10_goOn_3 rfl ?_
        refine w_aload_n dX10_goOn_5 rfl ?_
        refine w_getR dX10_goOn_6 f_X10_16 (by first | assumption | rfl) rfl rfl ?_
        refine w_bipush (v := 6) dX10_goOn_9 (by decide) ?_
        refine w_iald (j := 6) dX10_goOn_11 (by first | assumption | rfl) rfl rfl (by decide) (by decide) ?_
        rw [h92, hP.1]
        refine w_icmp_ge (tgt := 149) dX10_goOn_12 (by decide) (fun c_12 => absurd c_12 (nI_ge hkN (by omega))) (fun c_12 => ?_)
        refine w_aload_n dX10_goOn_15 rfl ?_
        refine w_getR dX10_goOn_16 f_X10_16 (by first | assumption | rfl) rfl rfl ?_
        refine w_iconst (v := 0) dX10_goOn_19 (by decide) ?_
        refine w_iald (j := 0) dX10_goOn_20 (by first | assumption | rfl) rfl rfl (by decide) (by decide) ?_
        rw [h92, h0]
        refine w_iload_n dX10_goOn_21 rfl ?_
        refine w_iconst (v := (-1)) dX10_goOn_22 (by decide) ?_
        refine w_ixor dX10_goOn_23 ?_
        refine w_iand dX10_goOn_24 ?_
        rw [msb_I m hm d hd]
        refine w_iload dX10_goOn_25 rfl ?_
        refine w_callSi dX10_goOn_27 k_X10_82 (hhas) rfl rfl rfl (Nat.le_of_ble_eq_true rfl) (by first | decide | omega) ?_
        refine w_if_eq (tgt := 143) dX10_goOn_30 (by decide) (fun c_30 => absurd c_30 (show ¬ zB true = 0 by decide)) (fun c_30 => ?_)
        refine w_aload_n dX10_goOn_33 rfl ?_
        refine w_callVv dX10_goOn_34 k_X10_127 (by first | assumption | rfl) rfl (hbg) rfl rfl rfl (Nat.le_of_ble_eq_true rfl) (by first | decide | omega) ?_
        refine w_aload_n dX10_goOn_37 rfl ?_
        refine w_getR dX10_goOn_38 f_X10_19 (by first | assumption | rfl) rfl rfl ?_
        refine w_iconst (v := 0) dX10_goOn_41 (by decide) ?_
        refine w_dup2 dX10_goOn_42 rfl rfl ?_
        refine w_iald (j := 0) dX10_goOn_43 (by first | assumption | rfl) rfl rfl (by decide) (by decide) ?_
        rw [hb0]
        refine w_iload_n dX10_goOn_44 rfl ?_
        refine w_iconst (v := (-1)) dX10_goOn_45 (by decide) ?_
        refine w_ixor dX10_goOn_46 ?_
        refine w_iand dX10_goOn_47 ?_
        rw [msb_I m hm d hd]
        refine w_iast (j := 0) dX10_goOn_48 (by first | assumption | rfl) rfl rfl (by decide) (by decide) ?_
        refine w_aload_n dX10_goOn_49 rfl ?_
        refine w_getR dX10_goOn_50 f_X10_19 (by first | assumption | rfl) rfl rfl ?_
        refine w_iconst (v := 1) dX10_goOn_53 (by decide) ?_
        refine w_iload_n dX10_goOn_54 rfl ?_
        refine w_iast (j := 1) dX10_goOn_55 (by first | assumption | rfl) rfl rfl (by decide) (by decide) ?_
        refine w_aload_n dX10_goOn_56 rfl ?_
        refine w_aload_n dX10_goOn_57 rfl ?_
        refine w_getR dX10_goOn_58 f_X10_19 (by first | assumption | rfl) rfl rfl ?_
        refine w_iload dX10_goOn_61 rfl ?_
        refine w_callVF dX10_goOn_63 k_X10_115 (by first | assumption | rfl) rfl (hgd) rfl rfl rfl (Nat.le_of_ble_eq_true rfl) (by first | decide | omega) (fun r_63 I_63 J_63 h_63 => ?_)
        obtain ⟨rfl, hJ, hMD, h93⟩ := h_63
        subst J_63
        have h99 : I_63 99 = I1 99 := by rw [hMD.1 99 (by decide) (by decide) (by decide) (by decide), upI_ne (by decide), upI_ne (by decide), upR_ne (by decide)]
        have e1 : I_63 93 1 = oI (none) := by rw [h93, ← eo]; exact onx_pdie hP hkN hh hq
        obtain ⟨bb, hbbd⟩ : ∃ bb, bb = (if e = true ∨ onx (ohl (I 92) N) (msb m d) h k = some t then 1 else 0) := ⟨_, rfl⟩
        have hM3 : Mr MSS I I_63 := (((hM.ur (by decide) (by decide)).up (by decide) (by decide)).up (by decide) (by decide)).tr (hMD.mr (by decide) (by decide) (by decide))
        have K106 : ∀ x8 : Option Value, q_w yX10_goOn.cls yX10_goOn.name cX10_goOn 9 .return_ 5 (fun st I2 J1 => st = [] ∧ (none : Option Value) = none ∧ J1 = J ∧ Mr MSS I I2 ∧ I2 99 = Z) 3 [some (.ref 89), some (.int (nI t)), some (.int (nI d)), some (.int (oI h)), some (.int (zB e)), some (.int (v)), some (.int (nI (k + 1))), some (.int (nI (oN (onx (ohl (I 92) N) (msb m d) h k)))), x8] [] (upI I_63 99 (16 * mset d k + 2 * oN (onx (ohl (I 92) N) (msb m d) h k) + bb) (I_63 99 (16 * mset d k + 2 * oN (onx (ohl (I 92) N) (msb m d) h k) + bb) + v)) (J) := fun x8 => by
          refine ih (k + 1) _ _ _ (by omega) (by omega) (hM3.up (by decide) (by decide)) ?_
          rw [upI_self, h99, hbbd]
          exact hZ
        refine w_aload_n dX10_goOn_66 rfl ?_
        refine w_getR dX10_goOn_67 f_X10_19 (by first | assumption | rfl) rfl rfl ?_
        refine w_iconst (v := 1) dX10_goOn_70 (by decide) ?_
        refine w_iald (j := 1) dX10_goOn_71 (by first | assumption | rfl) rfl rfl (by decide) (by decide) ?_
        rw [e1]
        refine w_bipush (v := (-9)) dX10_goOn_72 (by decide) ?_
        refine w_icmp_ne (tgt := 82) dX10_goOn_74 (by decide) (fun c_74 => absurd c_74 (fun q => q rfl)) (fun c_74 => ?_)
        refine w_bipush (v := 7) dX10_goOn_77 (by decide) ?_
        refine w_goto (tgt := 88) dX10_goOn_79 (by decide) ?_
        skip
        refine w_istore dX10_goOn_88 (by decide) rfl ?_
        refine w_iload dX10_goOn_90 rfl ?_
        refine w_if_ne (tgt := 101) dX10_goOn_92 (by decide) (fun c_92 => ?_) (fun c_92 => ?_)
        · refine w_iconst (v := 1) dX10_goOn_101 (by decide) ?_
          refine w_goto (tgt := 106) dX10_goOn_102 (by decide) ?_
          have hbb : bb = 1 := hbbd.trans (if_pos (Or.inl (by simpa [zB_eq0] using c_92)))
          rw [hbb] at K106
          have hl := l_go_106 (I := I) (J := J) (Z := Z) (t := t) (h := h) (e := e) (v := v) (o := none) (b := 1) hd hk7 (by rw [← eo]; exact hoN) (Or.inr rfl) (x8 := x8) (by rw [← eo]; exact K106)
          exact hl
        · refine w_iload dX10_goOn_95 rfl ?_
          refine w_iload_n dX10_goOn_97 rfl ?_
          refine w_icmp_ne (tgt := 105) dX10_goOn_98 (by decide) (fun c_98 => ?_) (fun c_98 => ?_)
          · refine w_iconst (v := 0) dX10_goOn_105 (by decide) ?_
            have hbb : bb = 0 := hbbd.trans (if_neg (fun q => q.elim (fun q => by rw [q] at c_92; exact absurd c_92 (by decide)) (fun q => by rw [eo] at q; cases q)))
            rw [hbb] at K106
            have hl := l_go_106 (I := I) (J := J) (Z := Z) (t := t) (h := h) (e := e) (v := v) (o := none) (b := 0) hd hk7 (by rw [← eo]; exact hoN) (Or.inl rfl) (x8 := x8) (by rw [← eo]; exact K106)
            exact hl
          · refine w_iconst (v := 1) dX10_goOn_101 (by decide) ?_
            refine w_goto (tgt := 106) dX10_goOn_102 (by decide) ?_
            have hbb : bb = 1 := hbbd.trans (if_pos (Or.inr (by rw [eo]; exact absurd (nI_inj (a := 7) (by decide) (by omega) c_98) (by omega))))
            rw [hbb] at K106
            have hl := l_go_106 (I := I) (J := J) (Z := Z) (t := t) (h := h) (e := e) (v := v) (o := none) (b := 1) hd hk7 (by rw [← eo]; exact hoN) (Or.inr rfl) (x8 := x8) (by rw [← eo]; exact K106)
            exact hl
      | some x =>
        have hx7 := hox x eo
        refine w_iload dX10_goOn_3 rfl ?_
        refine w_aload_n dX10_goOn_5 rfl ?_
        refine w_getR dX10_goOn_6 f_X10_16 (by first | assumption | rfl) rfl rfl ?_
        refine w_bipush (v := 6) dX10_goOn_9 (by decide) ?_
        refine w_iald (j := 6) dX10_goOn_11 (by first | assumption | rfl) rfl rfl (by decide) (by decide) ?_
        rw [h92, hP.1]
        refine w_icmp_ge (tgt := 149) dX10_goOn_12 (by decide) (fun c_12 => absurd c_12 (nI_ge hkN (by omega))) (fun c_12 => ?_)
        refine w_aload_n dX10_goOn_15 rfl ?_
        refine w_getR dX10_goOn_16 f_X10_16 (by first | assumption | rfl) rfl rfl ?_
        refine w_iconst (v := 0) dX10_goOn_19 (by decide) ?_
        refine w_iald (j := 0) dX10_goOn_20 (by first | assumption | rfl) rfl rfl (by decide) (by decide) ?_
        rw [h92, h0]
        refine w_iload_n dX10_goOn_21 rfl ?_
        refine w_iconst (v := (-1)) dX10_goOn_22 (by decide) ?_
        refine w_ixor dX10_goOn_23 ?_
        refine w_iand dX10_goOn_24 ?_
        rw [msb_I m hm d hd]
        refine w_iload dX10_goOn_25 rfl ?_
        refine w_callSi dX10_goOn_27 k_X10_82 (hhas) rfl rfl rfl (Nat.le_of_ble_eq_true rfl) (by first | decide | omega) ?_
        refine w_if_eq (tgt := 143) dX10_goOn_30 (by decide) (fun c_30 => absurd c_30 (show ¬ zB true = 0 by decide)) (fun c_30 => ?_)
        refine w_aload_n dX10_goOn_33 rfl ?_
        refine w_callVv dX10_goOn_34 k_X10_127 (by first | assumption | rfl) rfl (hbg) rfl rfl rfl (Nat.le_of_ble_eq_true rfl) (by first | decide | omega) ?_
        refine w_aload_n dX10_goOn_37 rfl ?_
        refine w_getR dX10_goOn_38 f_X10_19 (by first | assumption | rfl) rfl rfl ?_
        refine w_iconst (v := 0) dX10_goOn_41 (by decide) ?_
        refine w_dup2 dX10_goOn_42 rfl rfl ?_
        refine w_iald (j := 0) dX10_goOn_43 (by first | assumption | rfl) rfl rfl (by decide) (by decide) ?_
        rw [hb0]
        refine w_iload_n dX10_goOn_44 rfl ?_
        refine w_iconst (v := (-1)) dX10_goOn_45 (by decide) ?_
        refine w_ixor dX10_goOn_46 ?_
        refine w_iand dX10_goOn_47 ?_
        rw [msb_I m hm d hd]
        refine w_iast (j := 0) dX10_goOn_48 (by first | assumption | rfl) rfl rfl (by decide) (by decide) ?_
        refine w_aload_n dX10_goOn_49 rfl ?_
        refine w_getR dX10_goOn_50 f_X10_19 (by first | assumption | rfl) rfl rfl ?_
        refine w_iconst (v := 1) dX10_goOn_53 (by decide) ?_
        refine w_iload_n dX10_goOn_54 rfl ?_
        refine w_iast (j := 1) dX10_goOn_55 (by first | assumption | rfl) rfl rfl (by decide) (by decide) ?_
        refine w_aload_n dX10_goOn_56 rfl ?_
        refine w_aload_n dX10_goOn_57 rfl ?_
        refine w_getR dX10_goOn_58 f_X10_19 (by first | assumption | rfl) rfl rfl ?_
        refine w_iload dX10_goOn_61 rfl ?_
        refine w_callVF dX10_goOn_63 k_X10_115 (by first | assumption | rfl) rfl (hgd) rfl rfl rfl (Nat.le_of_ble_eq_true rfl) (by first | decide | omega) (fun r_63 I_63 J_63 h_63 => ?_)
        obtain ⟨rfl, hJ, hMD, h93⟩ := h_63
        subst J_63
        have h99 : I_63 99 = I1 99 := by rw [hMD.1 99 (by decide) (by decide) (by decide) (by decide), upI_ne (by decide), upI_ne (by decide), upR_ne (by decide)]
        have e1 : I_63 93 1 = oI (some x) := by rw [h93, ← eo]; exact onx_pdie hP hkN hh hq
        obtain ⟨bb, hbbd⟩ : ∃ bb, bb = (if e = true ∨ onx (ohl (I 92) N) (msb m d) h k = some t then 1 else 0) := ⟨_, rfl⟩
        have hM3 : Mr MSS I I_63 := (((hM.ur (by decide) (by decide)).up (by decide) (by decide)).up (by decide) (by decide)).tr (hMD.mr (by decide) (by decide) (by decide))
        have K106 : ∀ x8 : Option Value, q_w yX10_goOn.cls yX10_goOn.name cX10_goOn 9 .return_ 5 (fun st I2 J1 => st = [] ∧ (none : Option Value) = none ∧ J1 = J ∧ Mr MSS I I2 ∧ I2 99 = Z) 3 [some (.ref 89), some (.int (nI t)), some (.int (nI d)), some (.int (oI h)), some (.int (zB e)), some (.int (v)), some (.int (nI (k + 1))), some (.int (nI (oN (onx (ohl (I 92) N) (msb m d) h k)))), x8] [] (upI I_63 99 (16 * mset d k + 2 * oN (onx (ohl (I 92) N) (msb m d) h k) + bb) (I_63 99 (16 * mset d k + 2 * oN (onx (ohl (I 92) N) (msb m d) h k) + bb) + v)) (J) := fun x8 => by
          refine ih (k + 1) _ _ _ (by omega) (by omega) (hM3.up (by decide) (by decide)) ?_
          rw [upI_self, h99, hbbd]
          exact hZ
        refine w_aload_n dX10_goOn_66 rfl ?_
        refine w_getR dX10_goOn_67 f_X10_19 (by first | assumption | rfl) rfl rfl ?_
        refine w_iconst (v := 1) dX10_goOn_70 (by decide) ?_
        refine w_iald (j := 1) dX10_goOn_71 (by first | assumption | rfl) rfl rfl (by decide) (by decide) ?_
        rw [e1]
        refine w_bipush (v := (-9)) dX10_goOn_72 (by decide) ?_
        refine w_icmp_ne (tgt := 82) dX10_goOn_74 (by decide) (fun c_74 => ?_) (fun c_74 => absurd c_74 (nI_ne9 (by omega)))
        refine w_aload_n dX10_goOn_82 rfl ?_
        refine w_getR dX10_goOn_83 f_X10_19 (by first | assumption | rfl) rfl rfl ?_
        refine w_iconst (v := 1) dX10_goOn_86 (by decide) ?_
        refine w_iald (j := 1) dX10_goOn_87 (by first | assumption | rfl) rfl rfl (by decide) (by decide) ?_
        rw [e1]
        refine w_istore dX10_goOn_88 (by decide) rfl ?_
        refine w_iload dX10_goOn_90 rfl ?_
        refine w_if_ne (tgt := 101) dX10_goOn_92 (by decide) (fun c_92 => ?_) (fun c_92 => ?_)
        · refine w_iconst (v := 1) dX10_goOn_101 (by decide) ?_
          refine w_goto (tgt := 106) dX10_goOn_102 (by decide) ?_
          have hbb : bb = 1 := hbbd.trans (if_pos (Or.inl (by simpa [zB_eq0] using c_92)))
          rw [hbb] at K106
          have hl := l_go_106 (I := I) (J := J) (Z := Z) (t := t) (h := h) (e := e) (v := v) (o := some x) (b := 1) hd hk7 (by rw [← eo]; exact hoN) (Or.inr rfl) (x8 := x8) (by rw [← eo]; exact K106)
          exact hl
        · refine w_iload dX10_goOn_95 rfl ?_
          refine w_iload_n dX10_goOn_97 rfl ?_
          refine w_icmp_ne (tgt := 105) dX10_goOn_98 (by decide) (fun c_98 => ?_) (fun c_98 => ?_)
          · refine w_iconst (v := 0) dX10_goOn_105 (by decide) ?_
            have hbb : bb = 0 := hbbd.trans (if_neg (fun q => q.elim (fun q => by rw [q] at c_92; exact absurd c_92 (by decide)) (fun q => by rw [eo] at q; exact c_98 (by rw [Option.some.inj q]; rfl))))
            rw [hbb] at K106
            have hl := l_go_106 (I := I) (J := J) (Z := Z) (t := t) (h := h) (e := e) (v := v) (o := some x) (b := 0) hd hk7 (by rw [← eo]; exact hoN) (Or.inl rfl) (x8 := x8) (by rw [← eo]; exact K106)
            exact hl
          · refine w_iconst (v := 1) dX10_goOn_101 (by decide) ?_
            refine w_goto (tgt := 106) dX10_goOn_102 (by decide) ?_
            have hbb : bb = 1 := hbbd.trans (if_pos (Or.inr (by rw [eo]; exact (by rw [nI_inj (by omega) (by omega) c_98]))))
            rw [hbb] at K106
            have hl := l_go_106 (I := I) (J := J) (Z := Z) (t := t) (h := h) (e := e) (v := v) (o := some x) (b := 1) hd hk7 (by rw [← eo]; exact hoN) (Or.inr rfl) (x8 := x8) (by rw [← eo]; exact K106)
            exact hl
set_option maxHeartbeats 4000000 in
set_option maxRecDepth 100000 in
theorem c_X10_goOn {I : Mem} {J : Lng} {N m : Nat} (hP : PW (I 92) N m) {t d : Nat} {h : Option Nat} {e : Bool} {v : Int32} (ht : t < 7) (hd : d < 128) (hh : ∀ y, h = some y → y < 7 ∧ (msb m d).testBit y = true) : q_F yX10_goOn cX10_goOn 9 none 5 [.ref 89, .int (nI t), .int (nI d), .int (oI h), .int (zB e), .int v] I J (fun r I1 J1 => r = none ∧ J1 = J ∧ Mr MSS I I1 ∧ I1 99 = mgo (ohl (I 92) N) t (msb m d) d h e v N 0 (I 99)) := by
  refine q_Fv me_X10_goOn rfl (Nat.le_of_ble_eq_true rfl) ?_
  show q_w _ _ _ _ _ _ _ 0 [some (.ref 89), some (.int (nI t)), some (.int (nI d)), some (.int (oI h)), some (.int (zB e)), some (.int v), none, none, none] [] I J
  refine w_iconst (v := 0) dX10_goOn_0 (by decide) ?_
  refine w_istore dX10_goOn_1 (by decide) rfl ?_
  exact l_go hP ht hd hh N 0 I _ _ rfl (Nat.zero_le _) Mr.rf rfl
