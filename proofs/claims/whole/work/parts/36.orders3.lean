/-- one set's holders, from h on -/
def oin (hl : Nat → List Nat) (S p : Nat) : Nat → Nat → ((Nat → Int32) × Int32) → ((Nat → Int32) × Int32)
  | 0, _, x => x
  | r + 1, h, x => oin hl S p r (h + 1) (if ¬ x.1 (S * 7 + h) ≤ 0 then (if h = p then (x.1, x.2 + x.1 (S * 7 + h) * nI (fac (pop S))) else (ogo hl S h p (x.1 (S * 7 + h)) 7 0 x.1, x.2)) else x)
/-- all sets, from S down -/
def oout (hl : Nat → List Nat) (p : Nat) : Nat → ((Nat → Int32) × Int32) → ((Nat → Int32) × Int32)
  | 0, x => x
  | S + 1, x => oout hl p S (oin hl (S + 1) p 7 0 x)
set_option maxHeartbeats 4000000 in
set_option maxRecDepth 100000 in
theorem l_X7_in_b {I I1 : Mem} {J : Lng} {hl : Nat → List Nat} {p : Nat} {V : Int32} (hO : OO I I1) (hK : ∀ d, d < 7 → KR I1 (69 + 2 * d) (hl d)) (hp : p < 7) {S : Nat} (hS : S < 128) : ∀ (r h : Nat) (x : (Nat → Int32) × Int32) (x6 : Option Value), 7 - h = r → h ≤ 7 → (∀ (x5 x6 : Option Value), q_w yX7_inWhichHolds.cls yX7_inWhichHolds.name cX7_inWhichHolds 7 .ireturn 33 (fun st I2 J1 => ∃ v : Int32, st = [.int v] ∧ (J1 = J ∧ OO I I2 ∧ some (Value.int v) = some (.int V))) 98 [some (.ref 66), some (.ref 3), some (.int (nI p)), some (.int (oin hl S p r h x).2), some (.int (nI S)), x5, x6] [] (upR I1 68 (oin hl S p r h x).1) (J)) → q_w yX7_inWhichHolds.cls yX7_inWhichHolds.name cX7_inWhichHolds 7 .ireturn 33 (fun st I2 J1 => ∃ v : Int32, st = [.int v] ∧ (J1 = J ∧ OO I I2 ∧ some (Value.int v) = some (.int V))) 26 [some (.ref 66), some (.ref 3), some (.int (nI p)), some (.int x.2), some (.int (nI S)), some (.int (nI h)), x6] [] (upR I1 68 x.1) (J) := by
  intro r
  induction r with
  | zero =>
    intro h x x6 hr hh K
    obtain rfl : h = 7 := by omega
    refine w_iload dX7_inWhichHolds_26 rfl ?_
    refine w_bipush (v := 7) dX7_inWhichHolds_28 (by decide) ?_
    refine w_icmp_ge (tgt := 98) dX7_inWhichHolds_30 (by decide) (fun c_30 => ?_) (fun c_30 => absurd (show (7 : Int32) ≤ nI 7 by decide) c_30)
    exact K _ _
  | succ r ih =>
    intro h x x6 hr hh K
    have hh7 : h < 7 := by omega
    have hix : nI S * 7 + nI h = nI (S * 7 + h) := by rw [show nI S * 7 = nI (S * 7) from pk_mul S 7, nI_add]
    have hK2 : ∀ d, d < 7 → KR (upR I1 68 x.1) (69 + 2 * d) (hl d) := fun d hd => (hK d hd).up (by omega) (by omega)
    have hgo := c_X7_goOn (J := J) (v := x.1 (S * 7 + h)) hK2 hS hh7 hp
    rw [upR_upR, upR_t] at hgo
    have hbc := c_J6_bitCount_0f7a4 (I := upR I1 68 x.1) (J := J) (x := nI S)
    rw [zbc_pop S hS] at hbc
    unfold oin at K
    refine w_iload dX7_inWhichHolds_26 rfl ?_
    refine w_bipush (v := 7) dX7_inWhichHolds_28 (by decide) ?_
    refine w_icmp_ge (tgt := 98) dX7_inWhichHolds_30 (by decide) (fun c_30 => absurd c_30 (nI_ge (b := 7) hh7 (by decide))) (fun c_30 => ?_)
    refine w_aload_n dX7_inWhichHolds_33 rfl ?_
    refine w_getR dX7_inWhichHolds_34 f_X7_17 (by first | assumption | rfl) rfl rfl ?_
    refine w_iload dX7_inWhichHolds_37 rfl ?_
    refine w_bipush (v := 7) dX7_inWhichHolds_39 (by decide) ?_
    refine w_imul dX7_inWhichHolds_41 ?_
    refine w_iload dX7_inWhichHolds_42 rfl ?_
    refine w_iadd dX7_inWhichHolds_44 ?_
    refine w_iald (j := (S * 7 + h)) dX7_inWhichHolds_45 (by first | assumption | rfl) rfl hix (show S * 7 + h < 896 by omega) (by decide) ?_
    rw [upR_t]
    refine w_istore dX7_inWhichHolds_46 (by decide) rfl ?_
    refine w_iload dX7_inWhichHolds_48 rfl ?_
    refine w_if_le (tgt := 76) dX7_inWhichHolds_50 (by decide) (fun c_50 => ?_) (fun c_50 => ?_)
    · refine w_iload dX7_inWhichHolds_76 rfl ?_
      refine w_if_le (tgt := 92) dX7_inWhichHolds_78 (by decide) (fun c_78 => ?_) (fun c_78 => absurd c_50 c_78)
      refine w_iincv (c := 1) dX7_inWhichHolds_92 (by decide) rfl (by decide) rfl ?_
      refine w_goto (tgt := 26) dX7_inWhichHolds_95 (by decide) ?_
      rw [if_neg (fun q => q c_50)] at K
      rw [nI_1]
      exact ih (h + 1) x _ (by omega) (by omega) K
    · refine w_iload dX7_inWhichHolds_53 rfl ?_
      refine w_iload_n dX7_inWhichHolds_55 rfl ?_
      refine w_icmp_ne (tgt := 76) dX7_inWhichHolds_56 (by decide) (fun c_56 => ?_) (fun c_56 => ?_)
      · refine w_iload dX7_inWhichHolds_76 rfl ?_
        refine w_if_le (tgt := 92) dX7_inWhichHolds_78 (by decide) (fun c_78 => absurd c_78 c_50) (fun c_78 => ?_)
        refine w_aload_n dX7_inWhichHolds_81 rfl ?_
        refine w_iload dX7_inWhichHolds_82 rfl ?_
        refine w_iload dX7_inWhichHolds_84 rfl ?_
        refine w_iload_n dX7_inWhichHolds_86 rfl ?_
        refine w_iload dX7_inWhichHolds_87 rfl ?_
        refine w_callVv dX7_inWhichHolds_89 k_X7_47 (by first | assumption | rfl) rfl (hgo) rfl rfl rfl (Nat.le_of_ble_eq_true rfl) (by first | decide | omega) ?_
        refine w_iincv (c := 1) dX7_inWhichHolds_92 (by decide) rfl (by decide) rfl ?_
        refine w_goto (tgt := 26) dX7_inWhichHolds_95 (by decide) ?_
        have e : ¬ h = p := fun e => c_56 (by rw [e])
        rw [if_pos c_50, if_neg e] at K
        rw [nI_1]
        exact ih (h + 1) (ogo hl S h p (x.1 (S * 7 + h)) 7 0 x.1, x.2) _ (by omega) (by omega) K
      · refine w_iload_n dX7_inWhichHolds_59 rfl ?_
        refine w_iload dX7_inWhichHolds_60 rfl ?_
        refine w_iload dX7_inWhichHolds_62 rfl ?_
        refine w_callSi dX7_inWhichHolds_64 k_X7_38 (hbc) rfl rfl rfl (Nat.le_of_ble_eq_true rfl) (by first | decide | omega) ?_
        refine w_callSi dX7_inWhichHolds_67 k_X7_44 (c_X7_ofSoMany (pop_7 S)) rfl rfl rfl (Nat.le_of_ble_eq_true rfl) (by first | decide | omega) ?_
        refine w_imul dX7_inWhichHolds_70 ?_
        refine w_iadd dX7_inWhichHolds_71 ?_
        refine w_istore_n dX7_inWhichHolds_72 (by decide) rfl ?_
        refine w_goto (tgt := 92) dX7_inWhichHolds_73 (by decide) ?_
        refine w_iincv (c := 1) dX7_inWhichHolds_92 (by decide) rfl (by decide) rfl ?_
        refine w_goto (tgt := 26) dX7_inWhichHolds_95 (by decide) ?_
        have e : h = p := nI_inj (by omega) (by omega) c_56
        rw [if_pos c_50, if_pos e] at K
        rw [nI_1]
        exact ih (h + 1) (x.1, x.2 + x.1 (S * 7 + h) * nI (fac (pop S))) _ (by omega) (by omega) K
set_option maxHeartbeats 4000000 in
set_option maxRecDepth 100000 in
theorem l_X7_in_a {I I1 : Mem} {J : Lng} {hl : Nat → List Nat} {p : Nat} {V : Int32} (hO : OO I I1) (hK : ∀ d, d < 7 → KR I1 (69 + 2 * d) (hl d)) (hp : p < 7) : ∀ (S : Nat) (x : (Nat → Int32) × Int32) (x5 x6 : Option Value), S < 128 → (oout hl p S x).2 = V → q_w yX7_inWhichHolds.cls yX7_inWhichHolds.name cX7_inWhichHolds 7 .ireturn 33 (fun st I2 J1 => ∃ v : Int32, st = [.int v] ∧ (J1 = J ∧ OO I I2 ∧ some (Value.int v) = some (.int V))) 18 [some (.ref 66), some (.ref 3), some (.int (nI p)), some (.int x.2), some (.int (nI S)), x5, x6] [] (upR I1 68 x.1) (J) := by
  intro S
  induction S with
  | zero =>
    intro x x5 x6 hS hZ
    have hZ2 : x.2 = V := hZ
    refine w_iload dX7_inWhichHolds_18 rfl ?_
    refine w_if_le (tgt := 104) dX7_inWhichHolds_20 (by decide) (fun c_20 => ?_) (fun c_20 => absurd (show nI 0 ≤ (0 : Int32) by decide) c_20)
    refine w_iload_n dX7_inWhichHolds_104 rfl ?_
    exact w_ret dX7_inWhichHolds_105 ⟨_, rfl, rfl, hO.tr (fun p hp => upR_ne (by omega)), by rw [hZ2]⟩
  | succ S ih =>
    intro x x5 x6 hS hZ
    refine w_iload dX7_inWhichHolds_18 rfl ?_
    refine w_if_le (tgt := 104) dX7_inWhichHolds_20 (by decide) (fun c_20 => absurd c_20 (nI_nle (by omega) (by omega))) (fun c_20 => ?_)
    refine w_iconst (v := 0) dX7_inWhichHolds_23 (by decide) ?_
    refine w_istore dX7_inWhichHolds_24 (by decide) rfl ?_
    refine l_X7_in_b hO hK hp hS 7 0 x _ rfl (by decide) (fun x5 x6 => ?_)
    refine w_iincv (c := (-1)) dX7_inWhichHolds_98 (by decide) rfl (by decide) rfl ?_
    refine w_goto (tgt := 18) dX7_inWhichHolds_101 (by decide) ?_
    rw [pk_m1]
    exact ih _ _ _ (by omega) hZ
set_option maxHeartbeats 4000000 in
set_option maxRecDepth 100000 in
theorem c_X7_inWhichHolds {I : Mem} {J : Lng} {n m p : Nat} (hP : PW (lnd I 3) n m) (hp : p < n) : q_F yX7_inWhichHolds cX7_inWhichHolds 7 (some .int) 33 [.ref 66, .ref 3, .int (nI p)] I J (fun r I2 J1 => J1 = J ∧ OO I I2 ∧ r = some (.int (oout (ohl (lnd I 3) n) p m (oadd (fil (I 68) 0 896) m (phd (lnd I 3)) 1, 0)).2)) := by
  have hn7 := hP.2.1
  have hm := p2_128 hP.2.1 hP.2.2.2.1
  refine q_Fi me_X7_inWhichHolds rfl (Nat.le_of_ble_eq_true rfl) ?_
  show q_w _ _ _ _ _ _ _ 0 [some (.ref 66), some (.ref 3), some (.int (nI p)), none, none, none, none] [] I J
  refine w_aload_n dX7_inWhichHolds_0 rfl ?_
  refine w_aload_n dX7_inWhichHolds_1 rfl ?_
  refine w_callVF dX7_inWhichHolds_2 k_X7_22 (by first | assumption | rfl) rfl (c_X7_begin hP) rfl rfl rfl (Nat.le_of_ble_eq_true rfl) (by first | decide | omega) (fun r_2 I_2 J_2 h_2 => ?_)
  obtain ⟨rfl, rfl, hO, h68, hR⟩ := h_2
  obtain ⟨ht0, ht1, ht2⟩ := SH_land l3
  have e4 : I_2 3 4 = nI m := by rw [show I_2 3 4 = lnd I_2 3 0 from rfl, hO.land l3]; exact hP.2.2.1
  refine w_iconst (v := 0) dX7_inWhichHolds_5 (by decide) ?_
  refine w_istore_n dX7_inWhichHolds_6 (by decide) rfl ?_
  refine w_aload_n dX7_inWhichHolds_7 rfl ?_
  refine w_getI dX7_inWhichHolds_8 f_X7_26 (by first | assumption | rfl) rfl ?_
  refine w_bipush (v := 127) dX7_inWhichHolds_11 (by decide) ?_
  refine w_min dX7_inWhichHolds_13 k_X7_32 kM_min_s kM_i kM_min_c (Nat.le_of_ble_eq_true rfl) (by decide) ?_
  rw [e4, if_neg (show ¬ (127 : Int32) < nI m from nI_nlt (b := m) (a := 127) (by omega) (by decide))]
  refine w_istore dX7_inWhichHolds_16 (by decide) rfl ?_
  refine w_mem (I2 := upR I_2 68 (oadd (fil (I 68) 0 896) m (phd (lnd I 3)) 1)) (by rw [← h68, upR_id]) ?_
  exact l_X7_in_a hO hR (by omega) m (oadd (fil (I 68) 0 896) m (phd (lnd I 3)) 1, 0) _ _ hm rfl
