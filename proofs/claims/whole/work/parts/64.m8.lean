/-- those that are found, one behind the other -/
def evs (L : List Nat) : Nat → Nat → Nat → Nat
  | 0, _, S => S
  | r + 1, m, S => match L.find? (fun x => m.testBit x) with
    | none => S
    | some x => evs L r (mclr m x) (mset S x)
set_option maxHeartbeats 4000000 in
set_option maxRecDepth 100000 in
theorem c_X10_ever_b {I : Mem} {J : Lng} {t : Int32} (ht : pin t 4 = none) : q_E yX10_ever cX10_ever 5 (some .int) 4 [.ref 89, .int t] I J (some (.int (-2))) (upI I 89 0 0) (J) := by
  have htt := c_X10_noTie (I := upI I 89 0 0) (J := J) (t := t)
  rw [ht] at htt
  refine q_Ei me_X10_ever rfl (Nat.le_of_ble_eq_true rfl) ?_
  show q_w _ _ _ _ _ _ _ 0 [some (.ref 89), some (.int t), none, none, none] [] I J
  refine w_aload_n dX10_ever_0 rfl ?_
  refine w_iconst (v := 0) dX10_ever_1 (by decide) ?_
  refine w_putI dX10_ever_2 f_X10_41 (by first | assumption | rfl) rfl ?_
  refine w_iload_n dX10_ever_5 rfl ?_
  refine w_callSi dX10_ever_6 k_X10_121 (htt) rfl rfl rfl (Nat.le_of_ble_eq_true rfl) (by first | decide | omega) ?_
  refine w_if_eq (tgt := 15) dX10_ever_9 (by decide) (fun c_9 => absurd c_9 (show ¬ zB true = 0 by decide)) (fun c_9 => ?_)
  refine w_bipush (v := (-2)) dX10_ever_12 (by decide) ?_
  exact w_ret dX10_ever_14 ⟨rfl, rfl, rfl⟩
set_option maxHeartbeats 4000000 in
set_option maxRecDepth 100000 in
theorem c_X10_ever_0 {I : Mem} {J : Lng} {t : Int32} {k : Nat} (ht : pin t 4 = some k) (hh : I 92 1 = -9) : q_E yX10_ever cX10_ever 5 (some .int) 4 [.ref 89, .int t] I J (some (.int (0))) (upI I 89 0 0) (J) := by
  have htt := c_X10_noTie (I := upI I 89 0 0) (J := J) (t := t)
  rw [ht] at htt
  refine q_Ei me_X10_ever rfl (Nat.le_of_ble_eq_true rfl) ?_
  show q_w _ _ _ _ _ _ _ 0 [some (.ref 89), some (.int t), none, none, none] [] I J
  refine w_aload_n dX10_ever_0 rfl ?_
  refine w_iconst (v := 0) dX10_ever_1 (by decide) ?_
  refine w_putI dX10_ever_2 f_X10_41 (by first | assumption | rfl) rfl ?_
  refine w_iload_n dX10_ever_5 rfl ?_
  refine w_callSi dX10_ever_6 k_X10_121 (htt) rfl rfl rfl (Nat.le_of_ble_eq_true rfl) (by first | decide | omega) ?_
  refine w_if_eq (tgt := 15) dX10_ever_9 (by decide) (fun c_9 => ?_) (fun c_9 => absurd (rfl : zB false = 0) c_9)
  refine w_aload_n dX10_ever_15 rfl ?_
  refine w_getR dX10_ever_16 f_X10_16 (by first | assumption | rfl) rfl rfl ?_
  refine w_iconst (v := 1) dX10_ever_19 (by decide) ?_
  refine w_iald (j := 1) dX10_ever_20 (by first | assumption | rfl) rfl rfl (by decide) (by decide) ?_
  rw [t0_92]
  refine w_istore_n dX10_ever_21 (by decide) rfl ?_
  refine w_iload_n dX10_ever_22 rfl ?_
  refine w_bipush (v := (-9)) dX10_ever_23 (by decide) ?_
  refine w_icmp_ne (tgt := 30) dX10_ever_25 (by decide) (fun c_25 => absurd c_25 (fun q => q hh)) (fun c_25 => ?_)
  refine w_iconst (v := 0) dX10_ever_28 (by decide) ?_
  exact w_ret dX10_ever_29 ⟨rfl, rfl, rfl⟩
set_option maxHeartbeats 4000000 in
set_option maxRecDepth 100000 in
theorem l_X10_ever {I : Mem} {J : Lng} {a : Nat → Int32} {N m h R : Nat} {t : Int32} (hP : PW a N m) (hh : h < N) : ∀ (r S q : Nat) (I1 : Mem), pop q ≤ r → S < 128 → q < 2 ^ N → Mr MSS I I1 → I1 93 = upd a 0 (nI q) → evs (phe a N t h).1 r q S = R → q_w yX10_ever.cls yX10_ever.name cX10_ever 5 .ireturn 4 (fun st I2 J1 => ∃ v : Int32, st = [.int v] ∧ (some (Value.int v) = some (.int (nI R)) ∧ J1 = J ∧ Mr MSS I I2)) 64 [some (.ref 89), some (.int (t)), some (.int (nI h)), some (.int (nI S)), some (.int (oI (phr a N t h q)))] [] (I1) (J) := by
  have h7 := hP.2.1
  intro r
  induction r with
  | zero =>
    intro S q I1 hpp hS hq hM h93 hR
    have hq7 := p2_128 h7 hq
    have hR2 : S = R := hR
    have e : phr a N t h q = none := by
      show List.find? _ _ = none
      rw [List.find?_eq_none]
      intro x _ hb
      have := p2_bit hq hb
      exact absurd (show pop q = 0 by omega) (pop_0 q hq7 x (by omega) hb)
    rw [e]
    refine w_iload dX10_ever_64 rfl ?_
    refine w_bipush (v := (-9)) dX10_ever_66 (by decide) ?_
    refine w_icmp_eq (tgt := 108) dX10_ever_68 (by decide) (fun c_68 => ?_) (fun c_68 => absurd (rfl : oI none = -9) c_68)
    refine w_iload_n dX10_ever_108 rfl ?_
    exact w_ret dX10_ever_109 ⟨_, rfl, by rw [hR2], rfl, hM⟩
  | succ r ih =>
    intro S q I1 hpp hS hq hM h93 hR
    have hq7 := p2_128 h7 hq
    unfold evs at hR
    cases e : phr a N t h q with
    | none =>
      rw [show (phe a N t h).1.find? (fun x => q.testBit x) = none from e] at hR
      have hR2 : S = R := hR
      refine w_iload dX10_ever_64 rfl ?_
      refine w_bipush (v := (-9)) dX10_ever_66 (by decide) ?_
      refine w_icmp_eq (tgt := 108) dX10_ever_68 (by decide) (fun c_68 => ?_) (fun c_68 => absurd (rfl : oI none = -9) c_68)
      refine w_iload_n dX10_ever_108 rfl ?_
      exact w_ret dX10_ever_109 ⟨_, rfl, by rw [hR2], rfl, hM⟩
    | some x =>
      rw [show (phe a N t h).1.find? (fun x => q.testBit x) = some x from e] at hR
      have hR2 : evs (phe a N t h).1 r (mclr q x) (mset S x) = R := hR
      have hxb : q.testBit x = true := by have := List.find?_some e; exact this
      have hxN := p2_bit hq hxb
      have h0 : I1 93 0 = nI q := by rw [h93]; rfl
      have h93b : (upI I1 93 0 (nI (mclr q x))) 93 = upd a 0 (nI (mclr q x)) := by
        rw [upI_self, h93]
        funext k; unfold upd; split <;> rfl
      have hhe := c_X10_heirOf (I := upI I1 93 0 (nI (mclr q x))) (J := J) (N := N) (m := mclr q x) p93 (by rw [h93b]; exact hP.1) h7 (by intro k hk; show _ ∨ _; rw [show mpr (upI I1 93 0 (nI (mclr q x))) 93 k = a (7 + k) by unfold mpr; rw [h93b, upd_n (by omega)]]; exact hP.2.2.2.2.1 k hk) (by rw [h93b]; rfl) (mclr_lt q hq7 x (by omega)) (tie := t) hh
      rw [h93b, phr_0] at hhe
      refine w_iload dX10_ever_64 rfl ?_
      refine w_bipush (v := (-9)) dX10_ever_66 (by decide) ?_
      refine w_icmp_eq (tgt := 108) dX10_ever_68 (by decide) (fun c_68 => absurd c_68 (nI_ne9 (by omega))) (fun c_68 => ?_)
      refine w_iload_n dX10_ever_71 rfl ?_
      refine w_iconst (v := 1) dX10_ever_72 (by decide) ?_
      refine w_iload dX10_ever_73 rfl ?_
      refine w_ishl dX10_ever_75 ?_
      refine w_ior dX10_ever_76 ?_
      rw [show oI (some x) = nI x from rfl, mI_set S hS x (by omega)]
      refine w_istore_n dX10_ever_77 (by decide) rfl ?_
      refine w_aload_n dX10_ever_78 rfl ?_
      refine w_getR dX10_ever_79 f_X10_19 (by first | assumption | rfl) rfl rfl ?_
      refine w_iconst (v := 0) dX10_ever_82 (by decide) ?_
      refine w_dup2 dX10_ever_83 rfl rfl ?_
      refine w_iald (j := 0) dX10_ever_84 (by first | assumption | rfl) rfl rfl (by decide) (by decide) ?_
      rw [h0]
      refine w_iconst (v := 1) dX10_ever_85 (by decide) ?_
      refine w_iload dX10_ever_86 rfl ?_
      refine w_ishl dX10_ever_88 ?_
      refine w_iconst (v := (-1)) dX10_ever_89 (by decide) ?_
      refine w_ixor dX10_ever_90 ?_
      refine w_iand dX10_ever_91 ?_
      rw [mI_clr q hq7 x (by omega)]
      refine w_iast (j := 0) dX10_ever_92 (by first | assumption | rfl) rfl rfl (by decide) (by decide) ?_
      refine w_aload_n dX10_ever_93 rfl ?_
      refine w_aload_n dX10_ever_94 rfl ?_
      refine w_getR dX10_ever_95 f_X10_19 (by first | assumption | rfl) rfl rfl ?_
      refine w_iload_n dX10_ever_98 rfl ?_
      refine w_iload_n dX10_ever_99 rfl ?_
      refine w_callVF dX10_ever_100 k_X10_108 (by first | assumption | rfl) rfl (hhe) rfl rfl rfl (Nat.le_of_ble_eq_true rfl) (by first | decide | omega) (fun r_100 I_100 J_100 h_100 => ?_)
      obtain ⟨rfl, rfl, hM2⟩ := h_100
      refine w_istore dX10_ever_103 (by decide) rfl ?_
      refine w_goto (tgt := 64) dX10_ever_105 (by decide) ?_
      exact ih (mset S x) (mclr q x) I_100 (by have := pop_clr q hq7 x (by omega) hxb; omega) (mset_lt S hS x (by omega)) (Nat.lt_of_le_of_lt (mclr_le _ _) hq) ((hM.up (by decide) (by decide)).tr (hM2.mr (by decide) (by decide))) (by rw [hM2.pg p93, h93b]) hR2
set_option maxHeartbeats 4000000 in
set_option maxRecDepth 100000 in
theorem c_X10_ever {I : Mem} {J : Lng} {N m : Nat} (hP : PW (I 92) N m) {t : Int32} {k h : Nat} (ht : pin t 4 = some k) (hh : h < N) (he : I 92 1 = nI h) : q_F yX10_ever cX10_ever 5 (some .int) 4 [.ref 89, .int t] I J (fun r I1 J1 => r = some (.int (nI (evs (phe (tpg I) N t h).1 7 (mclr m h) (2 ^ h)))) ∧ J1 = J ∧ Mr MSS I I1) := by
  have htt := c_X10_noTie (I := upI I 89 0 0) (J := J) (t := t)
  rw [ht] at htt
  have hbg := c_X10_begin (I := upI I 89 0 0) (J := J)
  rw [show (upI I 89 0 0) 93 = I 93 from t0_ne (by decide), t0_92] at hbg
  have h7 := hP.2.1
  have hm := p2_128 h7 hP.2.2.2.1
  have hPT : PW (tpg I) N m := hP.cp (fun q hq => tpg_k hq)
  have h2p : ∀ j, j < 7 → 2 ^ j < 128 := by decide
  have h93 : (upR (upI I 89 0 0) 93 (cpy (I 93) (I 92) 0 0 22)) 93 = tpg I := upR_t
  have h930 : (upR (upI I 89 0 0) 93 (cpy (I 93) (I 92) 0 0 22)) 93 0 = nI m := by rw [h93]; exact hPT.2.2.1
  have h93b : (upI (upR (upI I 89 0 0) 93 (cpy (I 93) (I 92) 0 0 22)) 93 0 (nI (mclr m h))) 93 = upd (tpg I) 0 (nI (mclr m h)) := by rw [upI_self, h93]
  have hhe := c_X10_heirOf (I := upI (upR (upI I 89 0 0) 93 (cpy (I 93) (I 92) 0 0 22)) 93 0 (nI (mclr m h))) (J := J) (N := N) (m := mclr m h) p93 (by rw [h93b]; exact hPT.1) h7 (by intro k hk; show _ ∨ _; rw [show mpr (upI (upR (upI I 89 0 0) 93 (cpy (I 93) (I 92) 0 0 22)) 93 0 (nI (mclr m h))) 93 k = tpg I (7 + k) by unfold mpr; rw [h93b, upd_n (by omega)]]; exact hPT.2.2.2.2.1 k hk) (by rw [h93b]; rfl) (mclr_lt m hm h (by omega)) (tie := t) hh
  rw [h93b, phr_0] at hhe
  refine q_Fi me_X10_ever rfl (Nat.le_of_ble_eq_true rfl) ?_
  show q_w _ _ _ _ _ _ _ 0 [some (.ref 89), some (.int t), none, none, none] [] I J
  refine w_aload_n dX10_ever_0 rfl ?_
  refine w_iconst (v := 0) dX10_ever_1 (by decide) ?_
  refine w_putI dX10_ever_2 f_X10_41 (by first | assumption | rfl) rfl ?_
  refine w_iload_n dX10_ever_5 rfl ?_
  refine w_callSi dX10_ever_6 k_X10_121 (htt) rfl rfl rfl (Nat.le_of_ble_eq_true rfl) (by first | decide | omega) ?_
  refine w_if_eq (tgt := 15) dX10_ever_9 (by decide) (fun c_9 => ?_) (fun c_9 => absurd (rfl : zB false = 0) c_9)
  refine w_aload_n dX10_ever_15 rfl ?_
  refine w_getR dX10_ever_16 f_X10_16 (by first | assumption | rfl) rfl rfl ?_
  refine w_iconst (v := 1) dX10_ever_19 (by decide) ?_
  refine w_iald (j := 1) dX10_ever_20 (by first | assumption | rfl) rfl rfl (by decide) (by decide) ?_
  rw [t0_92, he]
  refine w_istore_n dX10_ever_21 (by decide) rfl ?_
  refine w_iload_n dX10_ever_22 rfl ?_
  refine w_bipush (v := (-9)) dX10_ever_23 (by decide) ?_
  refine w_icmp_ne (tgt := 30) dX10_ever_25 (by decide) (fun c_25 => ?_) (fun c_25 => absurd c_25 (nI_ne9 (by omega)))
  refine w_iconst (v := 1) dX10_ever_30 (by decide) ?_
  refine w_iload_n dX10_ever_31 rfl ?_
  refine w_ishl dX10_ever_32 ?_
  rw [mI_shl h (by omega)]
  refine w_istore_n dX10_ever_33 (by decide) rfl ?_
  refine w_aload_n dX10_ever_34 rfl ?_
  refine w_callVv dX10_ever_35 k_X10_127 (by first | assumption | rfl) rfl (hbg) rfl rfl rfl (Nat.le_of_ble_eq_true rfl) (by first | decide | omega) ?_
  refine w_aload_n dX10_ever_38 rfl ?_
  refine w_getR dX10_ever_39 f_X10_19 (by first | assumption | rfl) rfl rfl ?_
  refine w_iconst (v := 0) dX10_ever_42 (by decide) ?_
  refine w_dup2 dX10_ever_43 rfl rfl ?_
  refine w_iald (j := 0) dX10_ever_44 (by first | assumption | rfl) rfl rfl (by decide) (by decide) ?_
  rw [h930]
  refine w_iconst (v := 1) dX10_ever_45 (by decide) ?_
  refine w_iload_n dX10_ever_46 rfl ?_
  refine w_ishl dX10_ever_47 ?_
  refine w_iconst (v := (-1)) dX10_ever_48 (by decide) ?_
  refine w_ixor dX10_ever_49 ?_
  refine w_iand dX10_ever_50 ?_
  rw [mI_clr m hm h (by omega)]
  refine w_iast (j := 0) dX10_ever_51 (by first | assumption | rfl) rfl rfl (by decide) (by decide) ?_
  refine w_aload_n dX10_ever_52 rfl ?_
  refine w_aload_n dX10_ever_53 rfl ?_
  refine w_getR dX10_ever_54 f_X10_19 (by first | assumption | rfl) rfl rfl ?_
  refine w_iload_n dX10_ever_57 rfl ?_
  refine w_iload_n dX10_ever_58 rfl ?_
  refine w_callVF dX10_ever_59 k_X10_108 (by first | assumption | rfl) rfl (hhe) rfl rfl rfl (Nat.le_of_ble_eq_true rfl) (by first | decide | omega) (fun r_59 I_59 J_59 h_59 => ?_)
  obtain ⟨rfl, rfl, hM2⟩ := h_59
  refine w_istore dX10_ever_62 (by decide) rfl ?_
  exact l_X10_ever hPT hh 7 (2 ^ h) (mclr m h) I_59 (pop_7 _) (h2p h (by omega)) (Nat.lt_of_le_of_lt (mclr_le _ _) hP.2.2.2.1) ((((Mr.rf.f (by decide)).ur (by decide) (by decide)).up (by decide) (by decide)).tr (hM2.mr (by decide) (by decide))) (by rw [hM2.pg p93, h93b]) rfl
