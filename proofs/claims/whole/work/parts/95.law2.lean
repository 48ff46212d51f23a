theorem n4 : ∀ N, N < 257 → (nI N - 4).toInt = (N : Int) - 4 := by decide +kernel
theorem gt4 {N T : Nat} (hN : N ≤ 256) (hT : T ≤ 64) : (nI N - 4 < nI (4 * T)) ↔ N < 4 * T + 4 := by
  rw [ti_lt, n4 N (by omega), nI_toInt (by omega)]
  omega
theorem up4 {T : Nat} : nI (4 * T) + Int32.ofInt 4 = nI (4 * (T + 1)) := nI_add (a := 4 * T) (b := 4)
set_option maxHeartbeats 4000000 in
set_option maxRecDepth 100000 in
theorem law_loop {nm : String} {N : Nat} {xs : Nat → Int32} (hN : N ≤ 256) : ∀ (r T : Nat) (I : Mem) (J : Lng), 64 - T = r → T ≤ 64 → Sim T I J → LW nm N xs 100 4099 18 (LL T) [] SH I J := by
  intro r
  induction r with
  | zero =>
    intro T I J hr hT hS
    refine s_iload_n dL_law_18 rfl ?_
    refine s_aload_x dL_law_19 rfl ?_
    refine s_xlen rfl dL_law_20 ?_
    refine s_iconst (v := 4) dL_law_21 (by decide) ?_
    refine s_isub dL_law_22 ?_
    refine s_icmp_gt (tgt := 931) dL_law_23 (by decide) (fun _ => ?_) (fun c => absurd ((gt4 hN hT).mpr (by omega)) c)
    · refine s_iconst (v := 1) dL_law_931 (by decide) ?_
      exact s_ret dL_law_932 ⟨rfl, by decide, by decide⟩
  | succ r ih =>
    intro T I J hr hT hS
    refine s_iload_n dL_law_18 rfl ?_
    refine s_aload_x dL_law_19 rfl ?_
    refine s_xlen rfl dL_law_20 ?_
    refine s_iconst (v := 4) dL_law_21 (by decide) ?_
    refine s_isub dL_law_22 ?_
    refine s_icmp_gt (tgt := 931) dL_law_23 (by decide) (fun _ => ?_) (fun c => ?_)
    · refine s_iconst (v := 1) dL_law_931 (by decide) ?_
      exact s_ret dL_law_932 ⟨rfl, by decide, by decide⟩
    · have hi : 4 * T + 4 ≤ N := by
        rcases Nat.lt_or_ge N (4 * T + 4) with q | q
        · exact absurd ((gt4 hN hT).mpr q) c
        · exact q
      have K : ∀ (I2 : Mem) (J2 : Lng), Sim (T + 1) I2 J2 → LW nm N xs 100 4099 925 (LL T) [] SH I2 J2 := fun I2 J2 h2 => by
        refine s_iincn (y := nI (4 * (T + 1))) dL_law_925 rfl up4 (by decide) rfl ?_
        refine s_goto (tgt := 18) dL_law_928 (by decide) ?_
        exact ih (T + 1) I2 J2 (by omega) (by omega) h2
      refine s_aload_x dL_law_26 rfl ?_
      refine s_iload_n dL_law_27 rfl ?_
      refine s_xld rfl dL_law_28 (vp_in_nI (by omega) (by omega)) ?_
      refine s_bipush (v := 31) dL_law_29 (by decide) ?_
      refine s_iand dL_law_31 ?_
      obtain ⟨j, hj, ej⟩ := vp_in_of (pk_andIn (xs (nI (4 * T)).toNatClampNeg) (m := 31) 5 rfl (by decide)) (by decide)
      rw [ej]
      rcases (show j = 0 ∨ j = 1 ∨ j = 2 ∨ j = 3 ∨ j = 4 ∨ j = 5 ∨ j = 6 ∨ j = 7 ∨ j = 8 ∨ j = 9 ∨ j = 10 ∨ j = 11 ∨ j = 12 ∨ j = 13 ∨ j = 14 ∨ j = 15 ∨ j = 16 ∨ j = 17 ∨ j = 18 ∨ j = 19 ∨ j = 20 ∨ j = 21 ∨ j = 22 ∨ j = 23 ∨ j = 24 ∨ j = 25 ∨ 26 ≤ j by omega) with rfl | rfl | rfl | rfl | rfl | rfl | rfl | rfl | rfl | rfl | rfl | rfl | rfl | rfl | rfl | rfl | rfl | rfl | rfl | rfl | rfl | rfl | rfl | rfl | rfl | rfl | hge
      · refine s_tableIn (tgt := 152) (off := 120) dL_law_32 (by decide) (by decide) (by decide) (by decide) ?_
        exact lc_0 hN hi hS K
      · refine s_tableIn (tgt := 175) (off := 143) dL_law_32 (by decide) (by decide) (by decide) (by decide) ?_
        exact lc_1 hN hi hS K
      · refine s_tableIn (tgt := 188) (off := 156) dL_law_32 (by decide) (by decide) (by decide) (by decide) ?_
        exact lc_2 hN hi hS K
      · refine s_tableIn (tgt := 201) (off := 169) dL_law_32 (by decide) (by decide) (by decide) (by decide) ?_
        exact lc_3 hN hi hS K
      · refine s_tableIn (tgt := 214) (off := 182) dL_law_32 (by decide) (by decide) (by decide) (by decide) ?_
        exact lc_4 hN hi hS K
      · refine s_tableIn (tgt := 237) (off := 205) dL_law_32 (by decide) (by decide) (by decide) (by decide) ?_
        exact lc_5 hN hi hS K
      · refine s_tableIn (tgt := 270) (off := 238) dL_law_32 (by decide) (by decide) (by decide) (by decide) ?_
        exact lc_6 hN hi hS K
      · refine s_tableIn (tgt := 293) (off := 261) dL_law_32 (by decide) (by decide) (by decide) (by decide) ?_
        exact lc_7 hN hi hS K
      · refine s_tableIn (tgt := 326) (off := 294) dL_law_32 (by decide) (by decide) (by decide) (by decide) ?_
        exact lc_8 hN hi hS K
      · refine s_tableIn (tgt := 349) (off := 317) dL_law_32 (by decide) (by decide) (by decide) (by decide) ?_
        exact lc_9 hN hi hS K
      · refine s_tableIn (tgt := 372) (off := 340) dL_law_32 (by decide) (by decide) (by decide) (by decide) ?_
        exact lc_10 hN hi hS K
      · refine s_tableIn (tgt := 395) (off := 363) dL_law_32 (by decide) (by decide) (by decide) (by decide) ?_
        exact lc_11 hN hi hS K
      · refine s_tableIn (tgt := 408) (off := 376) dL_law_32 (by decide) (by decide) (by decide) (by decide) ?_
        exact lc_12 hN hi hS K
      · refine s_tableIn (tgt := 421) (off := 389) dL_law_32 (by decide) (by decide) (by decide) (by decide) ?_
        exact lc_13 hN hi hS K
      · refine s_tableIn (tgt := 454) (off := 422) dL_law_32 (by decide) (by decide) (by decide) (by decide) ?_
        exact lc_14 hN hi hS K
      · refine s_tableIn (tgt := 497) (off := 465) dL_law_32 (by decide) (by decide) (by decide) (by decide) ?_
        exact lc_15 hN hi hS K
      · refine s_tableIn (tgt := 520) (off := 488) dL_law_32 (by decide) (by decide) (by decide) (by decide) ?_
        exact lc_16 hN hi hS K
      · refine s_tableIn (tgt := 543) (off := 511) dL_law_32 (by decide) (by decide) (by decide) (by decide) ?_
        exact lc_17 hN hi hS K
      · refine s_tableIn (tgt := 618) (off := 586) dL_law_32 (by decide) (by decide) (by decide) (by decide) ?_
        exact lc_18 hN hi hS K
      · refine s_tableIn (tgt := 661) (off := 629) dL_law_32 (by decide) (by decide) (by decide) (by decide) ?_
        exact lc_19 hN hi hS K
      · refine s_tableIn (tgt := 694) (off := 662) dL_law_32 (by decide) (by decide) (by decide) (by decide) ?_
        exact lc_20 hN hi hS K
      · refine s_tableIn (tgt := 743) (off := 711) dL_law_32 (by decide) (by decide) (by decide) (by decide) ?_
        exact lc_21 hN hi hS K
      · refine s_tableIn (tgt := 802) (off := 770) dL_law_32 (by decide) (by decide) (by decide) (by decide) ?_
        exact lc_22 hN hi hS K
      · refine s_tableIn (tgt := 856) (off := 824) dL_law_32 (by decide) (by decide) (by decide) (by decide) ?_
        exact lc_23 hN hi hS K
      · refine s_tableIn (tgt := 879) (off := 847) dL_law_32 (by decide) (by decide) (by decide) (by decide) ?_
        exact lc_24 hN hi hS K
      · refine s_tableIn (tgt := 902) (off := 870) dL_law_32 (by decide) (by decide) (by decide) (by decide) ?_
        exact lc_25 hN hi hS K
      · have hj32 : j < 32 := hj
        refine s_tableOut (tgt := 925) dL_law_32 (Or.inr (by rw [nI_toInt (by omega)]; omega)) (by decide) ?_
        exact K I J (hS.mono (Nat.le_succ T))
set_option maxHeartbeats 4000000 in
set_option maxRecDepth 100000 in
theorem law_wp {nm : String} {N : Nat} {xs : Nat → Int32} (hN : N ≤ 256) : LW nm N xs 0 0 0 [some .null, none, none, none] [] [] (IL []) J0 := by
  refine s_new dL_law_0 nw_L_7 (IL_z (by decide)) rfl (by decide) (by decide) ?_
  refine s_sh (st2 := [.ref 0]) (σ2 := [(17, 11, List.replicate 11 none)]) rfl rfl ?_
  refine s_dup dL_law_3 rfl ?_
  refine s_callI (st := [.ref 0]) dL_law_4 ki_L_9 i_X9 rfl rfl rfl (Nat.le_of_ble_eq_true rfl) (by decide) (by decide) (by decide) (fun r σ1 I1 J1 h => ?_)
  obtain ⟨rfl, rfl, rfl, rfl⟩ := h
  refine s_sh (st2 := [.ref 0]) (σ2 := zs78) rfl rfl ?_
  refine s_astore_n dL_law_7 (by decide) rfl ?_
  refine s_new dL_law_8 nw_L_10 (IL_z (by decide)) rfl (by decide) (by decide) ?_
  refine s_sh (st2 := [.ref 89]) (σ2 := zs78 ++ [(18, 23, List.replicate 23 none)]) rfl rfl ?_
  refine s_dup dL_law_11 rfl ?_
  refine s_callI (st := [.ref 89]) dL_law_12 ki_L_12 i_X10 rfl rfl rfl (Nat.le_of_ble_eq_true rfl) (by decide) (by decide) (by decide) (fun r σ1 I1 J1 h => ?_)
  obtain ⟨rfl, rfl, rfl, rfl⟩ := h
  refine s_sh (st2 := [.ref 89]) (σ2 := SH) rfl SH_z ?_
  refine s_astore_n dL_law_15 (by decide) rfl ?_
  refine s_iconst (v := 0) dL_law_16 (by decide) ?_
  refine s_istore_n dL_law_17 (by decide) rfl ?_
  exact law_loop hN 64 0 I0 J0 rfl (by decide) Sim0
