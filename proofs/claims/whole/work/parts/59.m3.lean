/-! the reference's acts -/
def MF : List Nat := [0, 3, 4, 5, 6, 16, 18, 19, 20, 21]
def MSS : List Nat := [91, 93, 97, 98, 99]
def MSL : List Nat := [92, 91, 93, 97, 98, 99]
def Mr (S : List Nat) (I I1 : Mem) : Prop := (∀ p, p ≠ 89 → p ∉ S → I1 p = I p) ∧ ∀ k, k ∉ MF → I1 89 k = I 89 k
section
variable {S : List Nat} {I I1 I2 : Mem}
theorem Mr.rf : Mr S I I := ⟨fun _ _ _ => rfl, fun _ _ => rfl⟩
theorem Mr.tr (h : Mr S I I1) (k : Mr S I1 I2) : Mr S I I2 := ⟨fun p a b => (k.1 p a b).trans (h.1 p a b), fun q hq => (k.2 q hq).trans (h.2 q hq)⟩
theorem Mr.up {t k : Nat} {v : Int32} (h : Mr S I I1) (ht : t ∈ S) (h9 : t ≠ 89) : Mr S I (upI I1 t k v) := ⟨fun p a b => by rw [upI_ne (show p ≠ t from fun e => b (e ▸ ht))]; exact h.1 p a b, fun q hq => by rw [upI_ne (fun e => h9 e.symm)]; exact h.2 q hq⟩
theorem Mr.ur {t : Nat} {g : Nat → Int32} (h : Mr S I I1) (ht : t ∈ S) (h9 : t ≠ 89) : Mr S I (upR I1 t g) := ⟨fun p a b => by rw [upR_ne (show p ≠ t from fun e => b (e ▸ ht))]; exact h.1 p a b, fun q hq => by rw [upR_ne (fun e => h9 e.symm)]; exact h.2 q hq⟩
theorem Mr.f {k : Nat} {v : Int32} (h : Mr S I I1) (hk : k ∈ MF) : Mr S I (upI I1 89 k v) := ⟨fun p a b => by rw [upI_ne a]; exact h.1 p a b, fun q hq => by rw [upI_tf (show q ≠ k from fun e => hq (e ▸ hk))]; exact h.2 q hq⟩
theorem ML.mr (h : ML I I1) (h97 : 97 ∈ S) (h98 : 98 ∈ S) : Mr S I I1 := ⟨fun p a b => h.1 p (fun e => b (e ▸ h97)) (fun e => b (e ▸ h98)) a, fun q hq => h.2 q (fun e => hq (e ▸ (by decide)))⟩
theorem MD.mr {t : Nat} (h : MD t I I1) (ht : t ∈ S) (h97 : 97 ∈ S) (h98 : 98 ∈ S) : Mr S I I1 := ⟨fun p a b => h.1 p (fun e => b (e ▸ ht)) (fun e => b (e ▸ h97)) (fun e => b (e ▸ h98)) a, fun q hq => h.2 q (fun e => hq (e ▸ (by decide)))⟩
end
theorem znt_o (I : Mem) (z : Nat) {p : Nat} (h1 : p ≠ 89) (h2 : p ≠ 94) : znt I z p = I p := by
  unfold znt
  rw [upI_ne h1, upR_ne h2]
  split
  · rw [upI_ne h1, upR_ne h2]
  · rfl
theorem znt_92 (I : Mem) (z : Nat) : znt I z 92 = I 92 := znt_o I z (by decide) (by decide)
theorem t0_ne {I : Mem} {p : Nat} (h : p ≠ 89) : (upI I 89 0 0) p = I p := upI_ne h
theorem t0_z {I : Mem} {z : Nat} (h : I 89 11 = nI z) : (upI I 89 0 0) 89 11 = nI z := by rw [upI_tf (by decide)]; exact h
theorem t0_92 {I : Mem} : (upI I 89 0 0) 92 = I 92 := upI_ne (by decide)
set_option maxHeartbeats 4000000 in
set_option maxRecDepth 100000 in
theorem c_X10_die_u {I : Mem} {J : Lng} {N m : Nat} (hP : PW (I 92) N m) {p : Int32} (hp : pin p N = none) : q_E yX10_die cX10_die 2 (some .int) 5 [.ref 89, .int p] I J (some (.int (-1))) (upI I 89 0 0) (J) := by
  have hnp := c_X10_noPerson (I := upI I 89 0 0) (J := J) (N := N) (by rw [t0_92]; exact hP.1) hP.2.1 (p := p)
  rw [hp] at hnp
  refine q_Ei me_X10_die rfl (Nat.le_of_ble_eq_true rfl) ?_
  show q_w _ _ _ _ _ _ _ 0 [some (.ref 89), some (.int p)] [] I J
  refine w_aload_n dX10_die_0 rfl ?_
  refine w_iconst (v := 0) dX10_die_1 (by decide) ?_
  refine w_putI dX10_die_2 f_X10_41 (by first | assumption | rfl) rfl ?_
  refine w_aload_n dX10_die_5 rfl ?_
  refine w_iload_n dX10_die_6 rfl ?_
  refine w_callVi dX10_die_7 k_X10_104 (by first | assumption | rfl) rfl (hnp) rfl rfl rfl (Nat.le_of_ble_eq_true rfl) (by first | decide | omega) ?_
  refine w_if_eq (tgt := 15) dX10_die_10 (by decide) (fun c_10 => absurd c_10 (show ¬ zB true = 0 by decide)) (fun c_10 => ?_)
  refine w_iconst (v := (-1)) dX10_die_13 (by decide) ?_
  exact w_ret dX10_die_14 ⟨rfl, rfl, rfl⟩
set_option maxHeartbeats 4000000 in
set_option maxRecDepth 100000 in
theorem c_X10_die_l {I : Mem} {J : Lng} {N m : Nat} (hP : PW (I 92) N m) {p : Int32} {j : Nat} (hp : pin p N = some j) (hb : m.testBit j = false) : q_E yX10_die cX10_die 2 (some .int) 5 [.ref 89, .int p] I J (some (.int (-3))) (upI I 89 0 0) (J) := by
  have hnp := c_X10_noPerson (I := upI I 89 0 0) (J := J) (N := N) (by rw [t0_92]; exact hP.1) hP.2.1 (p := p)
  rw [hp] at hnp
  have h7 := hP.2.1
  obtain ⟨hj, rfl⟩ := pin_some (by omega) hp
  have hm := p2_128 h7 hP.2.2.2.1
  have h0 : I 92 0 = nI m := hP.2.2.1
  have hha := c_X10_has (I := upI I 89 0 0) (J := J) (s := nI m) (k := nI j)
  rw [mI_bit m hm j (by omega)] at hha
  rw [hb] at hha
  refine q_Ei me_X10_die rfl (Nat.le_of_ble_eq_true rfl) ?_
  show q_w _ _ _ _ _ _ _ 0 [some (.ref 89), some (.int (nI j))] [] I J
  refine w_aload_n dX10_die_0 rfl ?_
  refine w_iconst (v := 0) dX10_die_1 (by decide) ?_
  refine w_putI dX10_die_2 f_X10_41 (by first | assumption | rfl) rfl ?_
  refine w_aload_n dX10_die_5 rfl ?_
  refine w_iload_n dX10_die_6 rfl ?_
  refine w_callVi dX10_die_7 k_X10_104 (by first | assumption | rfl) rfl (hnp) rfl rfl rfl (Nat.le_of_ble_eq_true rfl) (by first | decide | omega) ?_
  refine w_if_eq (tgt := 15) dX10_die_10 (by decide) (fun c_10 => ?_) (fun c_10 => absurd (rfl : zB false = 0) c_10)
  refine w_aload_n dX10_die_15 rfl ?_
  refine w_getR dX10_die_16 f_X10_16 (by first | assumption | rfl) rfl rfl ?_
  refine w_iconst (v := 0) dX10_die_19 (by decide) ?_
  refine w_iald (j := 0) dX10_die_20 (by first | assumption | rfl) rfl rfl (by decide) (by decide) ?_
  rw [t0_92, h0]
  refine w_iload_n dX10_die_21 rfl ?_
  refine w_callSi dX10_die_22 k_X10_82 (hha) rfl rfl rfl (Nat.le_of_ble_eq_true rfl) (by first | decide | omega) ?_
  refine w_if_ne (tgt := 31) dX10_die_25 (by decide) (fun c_25 => absurd c_25 (fun q => q rfl)) (fun c_25 => ?_)
  refine w_bipush (v := (-3)) dX10_die_28 (by decide) ?_
  exact w_ret dX10_die_30 ⟨rfl, rfl, rfl⟩
set_option maxHeartbeats 4000000 in
set_option maxRecDepth 100000 in
theorem c_X10_die {I : Mem} {J : Lng} {N m : Nat} (hP : PW (I 92) N m) {z : Nat} (hz : I 89 11 = nI z) (hz2 : z ≤ 14) {p : Int32} {j : Nat} (hp : pin p N = some j) (hb : m.testBit j = true) : q_F yX10_die cX10_die 2 (some .int) 5 [.ref 89, .int p] I J (fun r I1 J1 => r = some (.int (pdie (I 92) N m j 1)) ∧ J1 = J ∧ I1 92 = pdie (I 92) N m j ∧ Mr MSL (znt (upI I 89 0 0) z) I1) := by
  have hnp := c_X10_noPerson (I := upI I 89 0 0) (J := J) (N := N) (by rw [t0_92]; exact hP.1) hP.2.1 (p := p)
  rw [hp] at hnp
  have h7 := hP.2.1
  obtain ⟨hj, rfl⟩ := pin_some (by omega) hp
  have hm := p2_128 h7 hP.2.2.2.1
  have h0 : I 92 0 = nI m := hP.2.2.1
  have hha := c_X10_has (I := upI I 89 0 0) (J := J) (s := nI m) (k := nI j)
  rw [mI_bit m hm j (by omega)] at hha
  rw [hb] at hha
  have hnt := c_X10_note (I := upI I 89 0 0) (J := J) (t0_z hz) hz2
  have h92 : (znt (upI I 89 0 0) z) 92 = I 92 := (znt_92 _ _).trans t0_92
  have hgd := c_X10_goDie (I := znt (upI I 89 0 0) z) (J := J) p92 (by rw [h92]; exact hP) hj
  rw [h92] at hgd
  refine q_Fi me_X10_die rfl (Nat.le_of_ble_eq_true rfl) ?_
  show q_w _ _ _ _ _ _ _ 0 [some (.ref 89), some (.int (nI j))] [] I J
  refine w_aload_n dX10_die_0 rfl ?_
  refine w_iconst (v := 0) dX10_die_1 (by decide) ?_
  refine w_putI dX10_die_2 f_X10_41 (by first | assumption | rfl) rfl ?_
  refine w_aload_n dX10_die_5 rfl ?_
  refine w_iload_n dX10_die_6 rfl ?_
  refine w_callVi dX10_die_7 k_X10_104 (by first | assumption | rfl) rfl (hnp) rfl rfl rfl (Nat.le_of_ble_eq_true rfl) (by first | decide | omega) ?_
  refine w_if_eq (tgt := 15) dX10_die_10 (by decide) (fun c_10 => ?_) (fun c_10 => absurd (rfl : zB false = 0) c_10)
  refine w_aload_n dX10_die_15 rfl ?_
  refine w_getR dX10_die_16 f_X10_16 (by first | assumption | rfl) rfl rfl ?_
  refine w_iconst (v := 0) dX10_die_19 (by decide) ?_
  refine w_iald (j := 0) dX10_die_20 (by first | assumption | rfl) rfl rfl (by decide) (by decide) ?_
  rw [t0_92, h0]
  refine w_iload_n dX10_die_21 rfl ?_
  refine w_callSi dX10_die_22 k_X10_82 (hha) rfl rfl rfl (Nat.le_of_ble_eq_true rfl) (by first | decide | omega) ?_
  refine w_if_ne (tgt := 31) dX10_die_25 (by decide) (fun c_25 => ?_) (fun c_25 => absurd c_25 (show ¬ zB true = 0 by decide))
  refine w_aload_n dX10_die_31 rfl ?_
  refine w_callVv dX10_die_32 k_X10_112 (by first | assumption | rfl) rfl (hnt) rfl rfl rfl (Nat.le_of_ble_eq_true rfl) (by first | decide | omega) ?_
  refine w_aload_n dX10_die_35 rfl ?_
  refine w_aload_n dX10_die_36 rfl ?_
  refine w_getR dX10_die_37 f_X10_16 (by first | assumption | rfl) rfl rfl ?_
  refine w_iload_n dX10_die_40 rfl ?_
  refine w_callVF dX10_die_41 k_X10_115 (by first | assumption | rfl) rfl (hgd) rfl rfl rfl (Nat.le_of_ble_eq_true rfl) (by first | decide | omega) (fun r_41 I_41 J_41 h_41 => ?_)
  obtain ⟨rfl, rfl, hMD, h92b⟩ := h_41
  refine w_aload_n dX10_die_44 rfl ?_
  refine w_getR dX10_die_45 f_X10_16 (by first | assumption | rfl) rfl rfl ?_
  refine w_iconst (v := 1) dX10_die_48 (by decide) ?_
  refine w_iald (j := 1) dX10_die_49 (by first | assumption | rfl) rfl rfl (by decide) (by decide) ?_
  exact w_ret dX10_die_50 ⟨_, rfl, by rw [h92b], rfl, h92b, hMD.mr (by decide) (by decide) (by decide)⟩
set_option maxHeartbeats 4000000 in
set_option maxRecDepth 100000 in
theorem c_X10_cut_b {I : Mem} {J : Lng} {x : Int32} (hx : pin1 x 9 = none) : q_E yX10_cut cX10_cut 2 (some .int) 1 [.ref 89, .int x] I J (some (.int (-2))) (upI I 89 0 0) (J) := by
  have hin := c_X10_in (I := upI I 89 0 0) (J := J) (v := x.toInt64) (a := 1) (b := 9)
  rw [zin_pin1 (N := 9) (by decide), hx] at hin
  refine q_Ei me_X10_cut rfl (Nat.le_of_ble_eq_true rfl) ?_
  show q_w _ _ _ _ _ _ _ 0 [some (.ref 89), some (.int x)] [] I J
  refine w_aload_n dX10_cut_0 rfl ?_
  refine w_iconst (v := 0) dX10_cut_1 (by decide) ?_
  refine w_putI dX10_cut_2 f_X10_41 (by first | assumption | rfl) rfl ?_
  refine w_iload_n dX10_cut_5 rfl ?_
  refine w_i2l dX10_cut_6 ?_
  refine w_lconst (v := 1) dX10_cut_7 (by decide) ?_
  refine w_ldc2 dX10_cut_8 c_X10_119 ?_
  refine w_callSi dX10_cut_11 k_X10_45 (hin) rfl rfl rfl (Nat.le_of_ble_eq_true rfl) (by first | decide | omega) ?_
  refine w_if_ne (tgt := 20) dX10_cut_14 (by decide) (fun c_14 => absurd c_14 (fun q => q rfl)) (fun c_14 => ?_)
  refine w_bipush (v := (-2)) dX10_cut_17 (by decide) ?_
  exact w_ret dX10_cut_19 ⟨rfl, rfl, rfl⟩
set_option maxHeartbeats 4000000 in
set_option maxRecDepth 100000 in
theorem c_X10_cut_l {I : Mem} {J : Lng} {x : Int32} {k : Nat} (hx : pin1 x 9 = some k) (hl : I 92 3 < x ∨ I 92 1 = -9) : q_E yX10_cut cX10_cut 2 (some .int) 1 [.ref 89, .int x] I J (some (.int (-3))) (upI I 89 0 0) (J) := by
  have hin := c_X10_in (I := upI I 89 0 0) (J := J) (v := x.toInt64) (a := 1) (b := 9)
  rw [zin_pin1 (N := 9) (by decide), hx] at hin
  refine q_Ei me_X10_cut rfl (Nat.le_of_ble_eq_true rfl) ?_
  show q_w _ _ _ _ _ _ _ 0 [some (.ref 89), some (.int x)] [] I J
  refine w_aload_n dX10_cut_0 rfl ?_
  refine w_iconst (v := 0) dX10_cut_1 (by decide) ?_
  refine w_putI dX10_cut_2 f_X10_41 (by first | assumption | rfl) rfl ?_
  refine w_iload_n dX10_cut_5 rfl ?_
  refine w_i2l dX10_cut_6 ?_
  refine w_lconst (v := 1) dX10_cut_7 (by decide) ?_
  refine w_ldc2 dX10_cut_8 c_X10_119 ?_
  refine w_callSi dX10_cut_11 k_X10_45 (hin) rfl rfl rfl (Nat.le_of_ble_eq_true rfl) (by first | decide | omega) ?_
  refine w_if_ne (tgt := 20) dX10_cut_14 (by decide) (fun c_14 => ?_) (fun c_14 => absurd c_14 (show ¬ zB true = 0 by decide))
  refine w_aload_n dX10_cut_20 rfl ?_
  refine w_getR dX10_cut_21 f_X10_16 (by first | assumption | rfl) rfl rfl ?_
  refine w_iconst (v := 3) dX10_cut_24 (by decide) ?_
  refine w_iald (j := 3) dX10_cut_25 (by first | assumption | rfl) rfl rfl (by decide) (by decide) ?_
  rw [t0_92]
  refine w_iload_n dX10_cut_26 rfl ?_
  refine w_icmp_lt (tgt := 41) dX10_cut_27 (by decide) (fun c_27 => ?_) (fun c_27 => ?_)
  · refine w_bipush (v := (-3)) dX10_cut_41 (by decide) ?_
    exact w_ret dX10_cut_43 ⟨rfl, rfl, rfl⟩
  · refine w_aload_n dX10_cut_30 rfl ?_
    refine w_getR dX10_cut_31 f_X10_16 (by first | assumption | rfl) rfl rfl ?_
    refine w_iconst (v := 1) dX10_cut_34 (by decide) ?_
    refine w_iald (j := 1) dX10_cut_35 (by first | assumption | rfl) rfl rfl (by decide) (by decide) ?_
    rw [t0_92]
    refine w_bipush (v := (-9)) dX10_cut_36 (by decide) ?_
    refine w_icmp_ne (tgt := 44) dX10_cut_38 (by decide) (fun c_38 => ?_) (fun c_38 => ?_)
    · exfalso
      rcases hl with hl | hl
      · exact c_27 hl
      · exact c_38 hl
    · refine w_bipush (v := (-3)) dX10_cut_41 (by decide) ?_
      exact w_ret dX10_cut_43 ⟨rfl, rfl, rfl⟩
set_option maxHeartbeats 4000000 in
set_option maxRecDepth 100000 in
theorem c_X10_cut {I : Mem} {J : Lng} {z : Nat} (hz : I 89 11 = nI z) (hz2 : z ≤ 14) {x : Int32} {k : Nat} (hx : pin1 x 9 = some k) (hl : ¬ I 92 3 < x) (hh : ¬ I 92 1 = -9) : q_E yX10_cut cX10_cut 2 (some .int) 1 [.ref 89, .int x] I J (some (.int (I 92 3 - x))) (upI (znt (upI I 89 0 0) z) 92 3 (I 92 3 - x)) (J) := by
  have hin := c_X10_in (I := upI I 89 0 0) (J := J) (v := x.toInt64) (a := 1) (b := 9)
  rw [zin_pin1 (N := 9) (by decide), hx] at hin
  have hnt := c_X10_note (I := upI I 89 0 0) (J := J) (t0_z hz) hz2
  have h92 : (znt (upI I 89 0 0) z) 92 = I 92 := (znt_92 _ _).trans t0_92
  refine q_Ei me_X10_cut rfl (Nat.le_of_ble_eq_true rfl) ?_
  show q_w _ _ _ _ _ _ _ 0 [some (.ref 89), some (.int x)] [] I J
  refine w_aload_n dX10_cut_0 rfl ?_
  refine w_iconst (v := 0) dX10_cut_1 (by decide) ?_
  refine w_putI dX10_cut_2 f_X10_41 (by first | assumption | rfl) rfl ?_
  refine w_iload_n dX10_cut_5 rfl ?_
  refine w_i2l dX10_cut_6 ?_
  refine w_lconst (v := 1) dX10_cut_7 (by decide) ?_
  refine w_ldc2 dX10_cut_8 c_X10_119 ?_
  refine w_callSi dX10_cut_11 k_X10_45 (hin) rfl rfl rfl (Nat.le_of_ble_eq_true rfl) (by first | decide | omega) ?_
  refine w_if_ne (tgt := 20) dX10_cut_14 (by decide) (fun c_14 => ?_) (fun c_14 => absurd c_14 (show ¬ zB true = 0 by decide))
  refine w_aload_n dX10_cut_20 rfl ?_
  refine w_getR dX10_cut_21 f_X10_16 (by first | assumption | rfl) rfl rfl ?_
  refine w_iconst (v := 3) dX10_cut_24 (by decide) ?_
  refine w_iald (j := 3) dX10_cut_25 (by first | assumption | rfl) rfl rfl (by decide) (by decide) ?_
  rw [t0_92]
  refine w_iload_n dX10_cut_26 rfl ?_
  refine w_icmp_lt (tgt := 41) dX10_cut_27 (by decide) (fun c_27 => absurd c_27 hl) (fun c_27 => ?_)
  refine w_aload_n dX10_cut_30 rfl ?_
  refine w_getR dX10_cut_31 f_X10_16 (by first | assumption | rfl) rfl rfl ?_
  refine w_iconst (v := 1) dX10_cut_34 (by decide) ?_
  refine w_iald (j := 1) dX10_cut_35 (by first | assumption | rfl) rfl rfl (by decide) (by decide) ?_
  rw [t0_92]
  refine w_bipush (v := (-9)) dX10_cut_36 (by decide) ?_
  refine w_icmp_ne (tgt := 44) dX10_cut_38 (by decide) (fun c_38 => ?_) (fun c_38 => absurd c_38 hh)
  refine w_aload_n dX10_cut_44 rfl ?_
  refine w_callVv dX10_cut_45 k_X10_112 (by first | assumption | rfl) rfl (hnt) rfl rfl rfl (Nat.le_of_ble_eq_true rfl) (by first | decide | omega) ?_
  refine w_aload_n dX10_cut_48 rfl ?_
  refine w_getR dX10_cut_49 f_X10_16 (by first | assumption | rfl) rfl rfl ?_
  refine w_iconst (v := 3) dX10_cut_52 (by decide) ?_
  refine w_dup2 dX10_cut_53 rfl rfl ?_
  refine w_iald (j := 3) dX10_cut_54 (by first | assumption | rfl) rfl rfl (by decide) (by decide) ?_
  rw [h92]
  refine w_iload_n dX10_cut_55 rfl ?_
  refine w_isub dX10_cut_56 ?_
  refine w_iast (j := 3) dX10_cut_57 (by first | assumption | rfl) rfl rfl (by decide) (by decide) ?_
  refine w_aload_n dX10_cut_58 rfl ?_
  refine w_getR dX10_cut_59 f_X10_16 (by first | assumption | rfl) rfl rfl ?_
  refine w_iconst (v := 3) dX10_cut_62 (by decide) ?_
  refine w_iald (j := 3) dX10_cut_63 (by first | assumption | rfl) rfl rfl (by decide) (by decide) ?_
  exact w_ret dX10_cut_64 ⟨by rw [upI_tt], rfl, rfl⟩
set_option maxHeartbeats 4000000 in
set_option maxRecDepth 100000 in
theorem c_X10_borrow_b {I : Mem} {J : Lng} {x : Int32} (hx : pin1 x 9 = none) : q_E yX10_borrow cX10_borrow 2 (some .int) 1 [.ref 89, .int x] I J (some (.int (-2))) (upI I 89 0 0) (J) := by
  have hin := c_X10_in (I := upI I 89 0 0) (J := J) (v := x.toInt64) (a := 1) (b := 9)
  rw [zin_pin1 (N := 9) (by decide), hx] at hin
  refine q_Ei me_X10_borrow rfl (Nat.le_of_ble_eq_true rfl) ?_
  show q_w _ _ _ _ _ _ _ 0 [some (.ref 89), some (.int x)] [] I J
  refine w_aload_n dX10_borrow_0 rfl ?_
  refine w_iconst (v := 0) dX10_borrow_1 (by decide) ?_
  refine w_putI dX10_borrow_2 f_X10_41 (by first | assumption | rfl) rfl ?_
  refine w_iload_n dX10_borrow_5 rfl ?_
  refine w_i2l dX10_borrow_6 ?_
  refine w_lconst (v := 1) dX10_borrow_7 (by decide) ?_
  refine w_ldc2 dX10_borrow_8 c_X10_119 ?_
  refine w_callSi dX10_borrow_11 k_X10_45 (hin) rfl rfl rfl (Nat.le_of_ble_eq_true rfl) (by first | decide | omega) ?_
  refine w_if_ne (tgt := 20) dX10_borrow_14 (by decide) (fun c_14 => absurd c_14 (fun q => q rfl)) (fun c_14 => ?_)
  refine w_bipush (v := (-2)) dX10_borrow_17 (by decide) ?_
  exact w_ret dX10_borrow_19 ⟨rfl, rfl, rfl⟩
set_option maxHeartbeats 4000000 in
set_option maxRecDepth 100000 in
theorem c_X10_borrow_l {I : Mem} {J : Lng} {x : Int32} {k : Nat} (hx : pin1 x 9 = some k) (hl : 9 < I 92 4 + x ∨ I 92 1 = -9) : q_E yX10_borrow cX10_borrow 2 (some .int) 1 [.ref 89, .int x] I J (some (.int (-3))) (upI I 89 0 0) (J) := by
  have hin := c_X10_in (I := upI I 89 0 0) (J := J) (v := x.toInt64) (a := 1) (b := 9)
  rw [zin_pin1 (N := 9) (by decide), hx] at hin
  refine q_Ei me_X10_borrow rfl (Nat.le_of_ble_eq_true rfl) ?_
  show q_w _ _ _ _ _ _ _ 0 [some (.ref 89), some (.int x)] [] I J
  refine w_aload_n dX10_borrow_0 rfl ?_
  refine w_iconst (v := 0) dX10_borrow_1 (by decide) ?_
  refine w_putI dX10_borrow_2 f_X10_41 (by first | assumption | rfl) rfl ?_
  refine w_iload_n dX10_borrow_5 rfl ?_
  refine w_i2l dX10_borrow_6 ?_
  refine w_lconst (v := 1) dX10_borrow_7 (by decide) ?_
  refine w_ldc2 dX10_borrow_8 c_X10_119 ?_
  refine w_callSi dX10_borrow_11 k_X10_45 (hin) rfl rfl rfl (Nat.le_of_ble_eq_true rfl) (by first | decide | omega) ?_
  refine w_if_ne (tgt := 20) dX10_borrow_14 (by decide) (fun c_14 => ?_) (fun c_14 => absurd c_14 (show ¬ zB true = 0 by decide))
  refine w_aload_n dX10_borrow_20 rfl ?_
  refine w_getR dX10_borrow_21 f_X10_16 (by first | assumption | rfl) rfl rfl ?_
  refine w_iconst (v := 4) dX10_borrow_24 (by decide) ?_
  refine w_iald (j := 4) dX10_borrow_25 (by first | assumption | rfl) rfl rfl (by decide) (by decide) ?_
  rw [t0_92]
  refine w_iload_n dX10_borrow_26 rfl ?_
  refine w_iadd dX10_borrow_27 ?_
  refine w_bipush (v := 9) dX10_borrow_28 (by decide) ?_
  refine w_icmp_gt (tgt := 44) dX10_borrow_30 (by decide) (fun c_30 => ?_) (fun c_30 => ?_)
  · refine w_bipush (v := (-3)) dX10_borrow_44 (by decide) ?_
    exact w_ret dX10_borrow_46 ⟨rfl, rfl, rfl⟩
  · refine w_aload_n dX10_borrow_33 rfl ?_
    refine w_getR dX10_borrow_34 f_X10_16 (by first | assumption | rfl) rfl rfl ?_
    refine w_iconst (v := 1) dX10_borrow_37 (by decide) ?_
    refine w_iald (j := 1) dX10_borrow_38 (by first | assumption | rfl) rfl rfl (by decide) (by decide) ?_
    rw [t0_92]
    refine w_bipush (v := (-9)) dX10_borrow_39 (by decide) ?_
    refine w_icmp_ne (tgt := 47) dX10_borrow_41 (by decide) (fun c_41 => ?_) (fun c_41 => ?_)
    · exfalso
      rcases hl with hl | hl
      · exact c_30 hl
      · exact c_41 hl
    · refine w_bipush (v := (-3)) dX10_borrow_44 (by decide) ?_
      exact w_ret dX10_borrow_46 ⟨rfl, rfl, rfl⟩
set_option maxHeartbeats 4000000 in
set_option maxRecDepth 100000 in
theorem c_X10_borrow {I : Mem} {J : Lng} {z : Nat} (hz : I 89 11 = nI z) (hz2 : z ≤ 14) {x : Int32} {k : Nat} (hx : pin1 x 9 = some k) (hl : ¬ 9 < I 92 4 + x) (hh : ¬ I 92 1 = -9) : q_E yX10_borrow cX10_borrow 2 (some .int) 1 [.ref 89, .int x] I J (some (.int (I 92 4 + x))) (upI (znt (upI I 89 0 0) z) 92 4 (I 92 4 + x)) (J) := by
  have hin := c_X10_in (I := upI I 89 0 0) (J := J) (v := x.toInt64) (a := 1) (b := 9)
  rw [zin_pin1 (N := 9) (by decide), hx] at hin
  have hnt := c_X10_note (I := upI I 89 0 0) (J := J) (t0_z hz) hz2
  have h92 : (znt (upI I 89 0 0) z) 92 = I 92 := (znt_92 _ _).trans t0_92
  refine q_Ei me_X10_borrow rfl (Nat.le_of_ble_eq_true rfl) ?_
  show q_w _ _ _ _ _ _ _ 0 [some (.ref 89), some (.int x)] [] I J
  refine w_aload_n dX10_borrow_0 rfl ?_
  refine w_iconst (v := 0) dX10_borrow_1 (by decide) ?_
  refine w_putI dX10_borrow_2 f_X10_41 (by first | assumption | rfl) rfl ?_
  refine w_iload_n dX10_borrow_5 rfl ?_
  refine w_i2l dX10_borrow_6 ?_
  refine w_lconst (v := 1) dX10_borrow_7 (by decide) ?_
  refine w_ldc2 dX10_borrow_8 c_X10_119 ?_
  refine w_callSi dX10_borrow_11 k_X10_45 (hin) rfl rfl rfl (Nat.le_of_ble_eq_true rfl) (by first | decide | omega) ?_
  refine w_if_ne (tgt := 20) dX10_borrow_14 (by decide) (fun c_14 => ?_) (fun c_14 => absurd c_14 (show ¬ zB true = 0 by decide))
  refine w_aload_n dX10_borrow_20 rfl ?_
  refine w_getR dX10_borrow_21 f_X10_16 (by first | assumption | rfl) rfl rfl ?_
  refine w_iconst (v := 4) dX10_borrow_24 (by decide) ?_
  refine w_iald (j := 4) dX10_borrow_25 (by first | assumption | rfl) rfl rfl (by decide) (by decide) ?_
  rw [t0_92]
  refine w_iload_n dX10_borrow_26 rfl ?_
  refine w_iadd dX10_borrow_27 ?_
  refine w_bipush (v := 9) dX10_borrow_28 (by decide) ?_
  refine w_icmp_gt (tgt := 44) dX10_borrow_30 (by decide) (fun c_30 => absurd c_30 hl) (fun c_30 => ?_)
  refine w_aload_n dX10_borrow_33 rfl ?_
  refine w_getR dX10_borrow_34 f_X10_16 (by first | assumption | rfl) rfl rfl ?_
  refine w_iconst (v := 1) dX10_borrow_37 (by decide) ?_
  refine w_iald (j := 1) dX10_borrow_38 (by first | assumption | rfl) rfl rfl (by decide) (by decide) ?_
  rw [t0_92]
  refine w_bipush (v := (-9)) dX10_borrow_39 (by decide) ?_
  refine w_icmp_ne (tgt := 47) dX10_borrow_41 (by decide) (fun c_41 => ?_) (fun c_41 => absurd c_41 hh)
  refine w_aload_n dX10_borrow_47 rfl ?_
  refine w_callVv dX10_borrow_48 k_X10_112 (by first | assumption | rfl) rfl (hnt) rfl rfl rfl (Nat.le_of_ble_eq_true rfl) (by first | decide | omega) ?_
  refine w_aload_n dX10_borrow_51 rfl ?_
  refine w_getR dX10_borrow_52 f_X10_16 (by first | assumption | rfl) rfl rfl ?_
  refine w_iconst (v := 4) dX10_borrow_55 (by decide) ?_
  refine w_dup2 dX10_borrow_56 rfl rfl ?_
  refine w_iald (j := 4) dX10_borrow_57 (by first | assumption | rfl) rfl rfl (by decide) (by decide) ?_
  rw [h92]
  refine w_iload_n dX10_borrow_58 rfl ?_
  refine w_iadd dX10_borrow_59 ?_
  refine w_iast (j := 4) dX10_borrow_60 (by first | assumption | rfl) rfl rfl (by decide) (by decide) ?_
  refine w_aload_n dX10_borrow_61 rfl ?_
  refine w_getR dX10_borrow_62 f_X10_16 (by first | assumption | rfl) rfl rfl ?_
  refine w_iconst (v := 4) dX10_borrow_65 (by decide) ?_
  refine w_iald (j := 4) dX10_borrow_66 (by first | assumption | rfl) rfl rfl (by decide) (by decide) ?_
  exact w_ret dX10_borrow_67 ⟨by rw [upI_tt], rfl, rfl⟩
set_option maxHeartbeats 4000000 in
set_option maxRecDepth 100000 in
theorem c_X10_heir_u {I : Mem} {J : Lng} {N m : Nat} (hP : PW (I 92) N m) {p t : Int32} (hp : pin p N = none) : q_E yX10_heir cX10_heir 3 (some .int) 4 [.ref 89, .int p, .int t] I J (some (.int (-1))) (upI I 89 0 0) (J) := by
  have hnp := c_X10_noPerson (I := upI I 89 0 0) (J := J) (N := N) (by rw [t0_92]; exact hP.1) hP.2.1 (p := p)
  rw [hp] at hnp
  refine q_Ei me_X10_heir rfl (Nat.le_of_ble_eq_true rfl) ?_
  show q_w _ _ _ _ _ _ _ 0 [some (.ref 89), some (.int p), some (.int t)] [] I J
  refine w_aload_n dX10_heir_0 rfl ?_
  refine w_iconst (v := 0) dX10_heir_1 (by decide) ?_
  refine w_putI dX10_heir_2 f_X10_41 (by first | assumption | rfl) rfl ?_
  refine w_aload_n dX10_heir_5 rfl ?_
  refine w_iload_n dX10_heir_6 rfl ?_
  refine w_callVi dX10_heir_7 k_X10_104 (by first | assumption | rfl) rfl (hnp) rfl rfl rfl (Nat.le_of_ble_eq_true rfl) (by first | decide | omega) ?_
  refine w_if_eq (tgt := 15) dX10_heir_10 (by decide) (fun c_10 => absurd c_10 (show ¬ zB true = 0 by decide)) (fun c_10 => ?_)
  refine w_iconst (v := (-1)) dX10_heir_13 (by decide) ?_
  exact w_ret dX10_heir_14 ⟨rfl, rfl, rfl⟩
set_option maxHeartbeats 4000000 in
set_option maxRecDepth 100000 in
theorem c_X10_heir_b {I : Mem} {J : Lng} {N m : Nat} (hP : PW (I 92) N m) {p t : Int32} {j : Nat} (hp : pin p N = some j) (ht : pin t 4 = none) : q_E yX10_heir cX10_heir 3 (some .int) 4 [.ref 89, .int p, .int t] I J (some (.int (-2))) (upI I 89 0 0) (J) := by
  have hnp := c_X10_noPerson (I := upI I 89 0 0) (J := J) (N := N) (by rw [t0_92]; exact hP.1) hP.2.1 (p := p)
  rw [hp] at hnp
  have h7 := hP.2.1
  obtain ⟨hj, rfl⟩ := pin_some (by omega) hp
  have hm := p2_128 h7 hP.2.2.2.1
  have hnt := c_X10_noTie (I := upI I 89 0 0) (J := J) (t := t)
  rw [ht] at hnt
  refine q_Ei me_X10_heir rfl (Nat.le_of_ble_eq_true rfl) ?_
  show q_w _ _ _ _ _ _ _ 0 [some (.ref 89), some (.int (nI j)), some (.int t)] [] I J
  refine w_aload_n dX10_heir_0 rfl ?_
  refine w_iconst (v := 0) dX10_heir_1 (by decide) ?_
  refine w_putI dX10_heir_2 f_X10_41 (by first | assumption | rfl) rfl ?_
  refine w_aload_n dX10_heir_5 rfl ?_
  refine w_iload_n dX10_heir_6 rfl ?_
  refine w_callVi dX10_heir_7 k_X10_104 (by first | assumption | rfl) rfl (hnp) rfl rfl rfl (Nat.le_of_ble_eq_true rfl) (by first | decide | omega) ?_
  refine w_if_eq (tgt := 15) dX10_heir_10 (by decide) (fun c_10 => ?_) (fun c_10 => absurd (rfl : zB false = 0) c_10)
  refine w_iload_n dX10_heir_15 rfl ?_
  refine w_callSi dX10_heir_16 k_X10_121 (hnt) rfl rfl rfl (Nat.le_of_ble_eq_true rfl) (by first | decide | omega) ?_
  refine w_if_eq (tgt := 27) dX10_heir_19 (by decide) (fun c_19 => absurd c_19 (show ¬ zB true = 0 by decide)) (fun c_19 => ?_)
  refine w_bipush (v := (-2)) dX10_heir_22 (by decide) ?_
  refine w_goto (tgt := 37) dX10_heir_24 (by decide) ?_
  exact w_ret dX10_heir_37 ⟨rfl, rfl, rfl⟩
set_option maxHeartbeats 4000000 in
set_option maxRecDepth 100000 in
theorem c_X10_heir {I : Mem} {J : Lng} {N m : Nat} (hP : PW (I 92) N m) {p t : Int32} {j k : Nat} (hp : pin p N = some j) (ht : pin t 4 = some k) : q_F yX10_heir cX10_heir 3 (some .int) 4 [.ref 89, .int p, .int t] I J (fun r I1 J1 => r = some (.int (oI (phr (I 92) N t j m))) ∧ J1 = J ∧ Mr MSS I I1) := by
  have hnp := c_X10_noPerson (I := upI I 89 0 0) (J := J) (N := N) (by rw [t0_92]; exact hP.1) hP.2.1 (p := p)
  rw [hp] at hnp
  have h7 := hP.2.1
  obtain ⟨hj, rfl⟩ := pin_some (by omega) hp
  have hm := p2_128 h7 hP.2.2.2.1
  have hnt := c_X10_noTie (I := upI I 89 0 0) (J := J) (t := t)
  rw [ht] at hnt
  have hhe := c_X10_heirOf (I := upI I 89 0 0) (J := J) p92 (by rw [t0_92]; exact hP.1) h7 (by unfold mpr; rw [t0_92]; exact hP.2.2.2.2.1) (by rw [t0_92]; exact hP.2.2.1) hm (tie := t) hj
  rw [t0_92] at hhe
  refine q_Fi me_X10_heir rfl (Nat.le_of_ble_eq_true rfl) ?_
  show q_w _ _ _ _ _ _ _ 0 [some (.ref 89), some (.int (nI j)), some (.int t)] [] I J
  refine w_aload_n dX10_heir_0 rfl ?_
  refine w_iconst (v := 0) dX10_heir_1 (by decide) ?_
  refine w_putI dX10_heir_2 f_X10_41 (by first | assumption | rfl) rfl ?_
  refine w_aload_n dX10_heir_5 rfl ?_
  refine w_iload_n dX10_heir_6 rfl ?_
  refine w_callVi dX10_heir_7 k_X10_104 (by first | assumption | rfl) rfl (hnp) rfl rfl rfl (Nat.le_of_ble_eq_true rfl) (by first | decide | omega) ?_
  refine w_if_eq (tgt := 15) dX10_heir_10 (by decide) (fun c_10 => ?_) (fun c_10 => absurd (rfl : zB false = 0) c_10)
  refine w_iload_n dX10_heir_15 rfl ?_
  refine w_callSi dX10_heir_16 k_X10_121 (hnt) rfl rfl rfl (Nat.le_of_ble_eq_true rfl) (by first | decide | omega) ?_
  refine w_if_eq (tgt := 27) dX10_heir_19 (by decide) (fun c_19 => ?_) (fun c_19 => absurd (rfl : zB false = 0) c_19)
  refine w_aload_n dX10_heir_27 rfl ?_
  refine w_aload_n dX10_heir_28 rfl ?_
  refine w_getR dX10_heir_29 f_X10_16 (by first | assumption | rfl) rfl rfl ?_
  refine w_iload_n dX10_heir_32 rfl ?_
  refine w_iload_n dX10_heir_33 rfl ?_
  refine w_callVF dX10_heir_34 k_X10_108 (by first | assumption | rfl) rfl (hhe) rfl rfl rfl (Nat.le_of_ble_eq_true rfl) (by first | decide | omega) (fun r_34 I_34 J_34 h_34 => ?_)
  obtain ⟨rfl, rfl, hM⟩ := h_34
  exact w_ret dX10_heir_37 ⟨_, rfl, rfl, rfl, (Mr.rf.f (by decide)).tr (hM.mr (by decide) (by decide))⟩
