def scrL : List Nat := 3 :: 4 :: 5 :: scr
theorem zrem_o (I : Mem) (f z : Nat) {p : Nat} (h9 : p ≠ 9) (hp : p < 11 ∨ 53 ≤ p) : zrem I f z p = I p := by
  have hm : (rf f z + rz z) % 14 < 14 := Nat.mod_lt _ (by decide)
  unfold zrem
  rw [upI_ne h9, zcopy_o _ _ _ p (by omega) (by omega) (by omega)]
  split
  · rw [upI_ne h9, upI_ne h9]
  · rfl
theorem zrem_3 (I : Mem) (f z : Nat) : lnd (zrem I f z) 3 = lnd I 3 := lnd_ne (zrem_o I f z (by decide) (by decide)) (zrem_o I f z (by decide) (by decide)) (zrem_o I f z (by decide) (by decide))
theorem zcopy_fr {S : List Nat} {I I1 : Mem} {t o : Nat} (h : Fr S I I1) (h0 : o ∉ S) (h1 : o + 1 ∉ S) (h2 : o + 2 ∉ S) : Fr S (zcopy I t o) (zcopy I1 t o) := fun p hp => by
  funext k
  unfold zcopy
  rw [h p hp, h o h0, h (o + 1) h1, h (o + 2) h2]
theorem Fr.ups {S : List Nat} {I I1 : Mem} {t k : Nat} {v : Int32} (h : Fr S I I1) : Fr S (upI I t k v) (upI I1 t k v) := fun p hp => by
  funext q; unfold upI; rw [h p hp]
theorem zrem_fr {I I1 : Mem} {f z : Nat} (h : Fr scr I I1) : Fr scr (zrem I f z) (zrem I1 f z) := by
  unfold zrem
  refine Fr.ups (zcopy_fr ?_ (by decide) (by decide) (by decide))
  split
  · exact Fr.ups (Fr.ups h)
  · exact h
theorem AR.fr {I I1 : Mem} {f z : Nat} (h : AR I f z) (h9 : I1 9 = I 9) : AR I1 f z := by unfold AR; rw [h9]; exact h
theorem scrL_k {I : Mem} {l : List Nat} {s : Nat} : Fr scrL I (kput I 55 l s) := fun p hp => kput_ne (fun e => hp (e ▸ (by decide))) (fun e => hp (e ▸ (by decide)))
theorem scrL_LO {I I1 : Mem} (h : LO 3 I I1) : Fr scrL I I1 := fun p hp => h p (fun e => hp (e ▸ (by decide))) (fun e => hp (e ▸ (by decide))) (fun e => hp (e ▸ (by decide)))
theorem scrL_LK {I I1 : Mem} (h : LK 3 55 I I1) : Fr scrL I I1 := fun p hp => h p (fun e => hp (e ▸ (by decide))) (fun e => hp (e ▸ (by decide))) (fun e => hp (e ▸ (by decide))) (fun e => hp (e ▸ (by decide))) (fun e => hp (e ▸ (by decide)))
theorem scrL_of {I I1 : Mem} (h : Fr scr I I1) : Fr scrL I I1 := h.mono (fun p hp => List.mem_cons_of_mem _ (List.mem_cons_of_mem _ (List.mem_cons_of_mem _ hp)))
theorem phd_none {a : Nat → Int32} (h : a 1 = -9) : phd a = none := if_pos h
theorem phd_some {a : Nat → Int32} {h : Nat} (hh : h < 2 ^ 31) (e : a 1 = nI h) : phd a = some h := by
  unfold phd; rw [e, if_neg (nI_ne9 hh), nI_clamp hh]
set_option maxHeartbeats 4000000 in
set_option maxRecDepth 100000 in
theorem c_X9_hasChild {I : Mem} {J : Lng} {N m : Nat} (hP : PW (lnd I 3) N m) : q_F yX9_hasChildOfAgeAsHeir cX9_hasChildOfAgeAsHeir 2 (some .boolean) 32 [.ref 0] I J (fun r I1 J1 => r = some (.int (zB (pchild (lnd I 3) N m))) ∧ J1 = J ∧ Fr scr I I1) := by
  obtain ⟨ht0, ht1, ht2⟩ := SH_land l3
  obtain ⟨hq0, hq1⟩ := SH_kin k55
  have hn7 := hP.2.1
  have hm := hP.2.2.2.1
  have e4 : I 3 4 = nI m := hP.2.2.1
  refine q_Fz me_X9_hasChildOfAgeAsHeir rfl (Nat.le_of_ble_eq_true rfl) ?_
  show q_w _ _ _ _ _ _ _ 0 [some (.ref 0), none] [] I J
  rcases hP.2.2.2.2.2.1 with e | ⟨h, hh, hb, e⟩
  · have e5 : I 3 5 = -9 := e
    refine w_aload_n dX9_hasChildOfAgeAsHeir_0 rfl ?_
    refine w_getR dX9_hasChildOfAgeAsHeir_1 f_X9_19 (by first | assumption | rfl) rfl rfl ?_
    refine w_getI dX9_hasChildOfAgeAsHeir_4 f_X9_94 (by first | assumption | rfl) rfl ?_
    refine w_bipush (v := (-9)) dX9_hasChildOfAgeAsHeir_7 (by decide) ?_
    refine w_icmp_ne (tgt := 14) dX9_hasChildOfAgeAsHeir_9 (by decide) (fun c_9 => absurd e5 c_9) (fun c_9 => ?_)
    refine w_iconst (v := 0) dX9_hasChildOfAgeAsHeir_12 (by decide) ?_
    exact w_ret dX9_hasChildOfAgeAsHeir_13 ⟨0, Or.inl rfl, rfl, by rw [pchild, phd_none e5]; rfl, rfl, Fr.rf⟩
  · have e5 : I 3 5 = nI h := e
    have hli := c_X5_listHeirs (J := J) (tie := I 3 6) k55 l3 hP.FM hP.FP hh
    have hKI := fhe_KI (tie := I 3 6) hn7 hP.FP hh
    have hfo := c_X5_firstOf (J := J) k55 (KR.k (I := I) (q := 55) (l := (fhe I 3 N (I 3 6) h).1) (s := (fhe I 3 N (I 3 6) h).2) hn7 hKI) (p2_128 hn7 hm)
    have hph : (fhe I 3 N (I 3 6) h).1.find? (fun x => m.testBit x) = phr (lnd I 3) N (lnd I 3 2) h m := by rw [fhe_phe hn7 hP.FP hh]; rfl
    refine w_aload_n dX9_hasChildOfAgeAsHeir_0 rfl ?_
    refine w_getR dX9_hasChildOfAgeAsHeir_1 f_X9_19 (by first | assumption | rfl) rfl rfl ?_
    refine w_getI dX9_hasChildOfAgeAsHeir_4 f_X9_94 (by first | assumption | rfl) rfl ?_
    refine w_bipush (v := (-9)) dX9_hasChildOfAgeAsHeir_7 (by decide) ?_
    refine w_icmp_ne (tgt := 14) dX9_hasChildOfAgeAsHeir_9 (by decide) (fun c_9 => ?_) (fun c_9 => absurd c_9 (by rw [e5]; exact nI_ne9 (by omega)))
    refine w_aload_n dX9_hasChildOfAgeAsHeir_14 rfl ?_
    refine w_getR dX9_hasChildOfAgeAsHeir_15 f_X9_44 (by first | assumption | rfl) rfl rfl ?_
    refine w_aload_n dX9_hasChildOfAgeAsHeir_18 rfl ?_
    refine w_getR dX9_hasChildOfAgeAsHeir_19 f_X9_19 (by first | assumption | rfl) rfl rfl ?_
    refine w_aload_n dX9_hasChildOfAgeAsHeir_22 rfl ?_
    refine w_getR dX9_hasChildOfAgeAsHeir_23 f_X9_19 (by first | assumption | rfl) rfl rfl ?_
    refine w_getI dX9_hasChildOfAgeAsHeir_26 f_X9_94 (by first | assumption | rfl) rfl ?_
    rw [e5]
    refine w_aload_n dX9_hasChildOfAgeAsHeir_29 rfl ?_
    refine w_getR dX9_hasChildOfAgeAsHeir_30 f_X9_19 (by first | assumption | rfl) rfl rfl ?_
    refine w_getI dX9_hasChildOfAgeAsHeir_33 f_X9_97 (by first | assumption | rfl) rfl ?_
    refine w_callVv dX9_hasChildOfAgeAsHeir_36 k_X9_156 (by first | assumption | rfl) rfl (hli) rfl rfl rfl (Nat.le_of_ble_eq_true rfl) (by first | decide | omega) ?_
    refine w_aload_n dX9_hasChildOfAgeAsHeir_39 rfl ?_
    refine w_getR dX9_hasChildOfAgeAsHeir_40 f_X9_44 (by first | assumption | rfl) rfl rfl ?_
    refine w_aload_n dX9_hasChildOfAgeAsHeir_43 rfl ?_
    refine w_getR dX9_hasChildOfAgeAsHeir_44 f_X9_19 (by first | assumption | rfl) rfl rfl ?_
    refine w_getI dX9_hasChildOfAgeAsHeir_47 f_X9_91 (by first | assumption | rfl) rfl ?_
    rw [kput_t l3 k55, e4]
    refine w_callVi dX9_hasChildOfAgeAsHeir_50 k_X9_160 (by first | assumption | rfl) rfl (hfo) rfl rfl rfl (Nat.le_of_ble_eq_true rfl) (by first | decide | omega) ?_
    refine w_istore_n dX9_hasChildOfAgeAsHeir_53 (by decide) rfl ?_
    cases hx : (fhe I 3 N (I 3 6) h).1.find? (fun x => m.testBit x) with
    | none =>
      have hpc : pchild (lnd I 3) N m = false := by rw [pchild, phd_some (by omega) e]; dsimp only; rw [← hph, hx]
      refine w_iload_n dX9_hasChildOfAgeAsHeir_54 rfl ?_
      refine w_bipush (v := (-9)) dX9_hasChildOfAgeAsHeir_55 (by decide) ?_
      refine w_icmp_eq (tgt := 94) dX9_hasChildOfAgeAsHeir_57 (by decide) (fun c_57 => ?_) (fun c_57 => absurd (rfl : oI none = -9) c_57)
      refine w_iconst (v := 0) dX9_hasChildOfAgeAsHeir_94 (by decide) ?_
      exact w_ret dX9_hasChildOfAgeAsHeir_95 ⟨0, Or.inl rfl, rfl, by rw [hpc]; rfl, rfl, scr_k⟩
    | some x =>
      have hxn : x < N := (hKI.2.2 x (List.mem_of_find?_eq_some hx)).1
      have hpc : pchild (lnd I 3) N m = (decide (I 4 x = nI h) && !decide (I 5 x < 2)) := by
        rw [pchild, phd_some (by omega) e]; dsimp only; rw [← hph, hx]; dsimp only
        rw [lnd_par I 3 (by omega), lnd_age I 3 (by omega)]
      have hpa := ck_parentOf (l := (fhe I 3 N (I 3 6) h).1) (s := (fhe I 3 N (I 3 6) h).2) (J := J) l3 k55 hP.FM hxn
      have hag := cn_ageOf l3 (J := J) (hP.FM.k (l := (fhe I 3 N (I 3 6) h).1) (s := (fhe I 3 N (I 3 6) h).2) l3 k55) hxn
      rw [kput_t2 l3 k55] at hag
      refine w_iload_n dX9_hasChildOfAgeAsHeir_54 rfl ?_
      refine w_bipush (v := (-9)) dX9_hasChildOfAgeAsHeir_55 (by decide) ?_
      refine w_icmp_eq (tgt := 94) dX9_hasChildOfAgeAsHeir_57 (by decide) (fun c_57 => absurd c_57 (nI_ne9 (a := x) (by omega))) (fun c_57 => ?_)
      refine w_aload_n dX9_hasChildOfAgeAsHeir_60 rfl ?_
      refine w_getR dX9_hasChildOfAgeAsHeir_61 f_X9_19 (by first | assumption | rfl) rfl rfl ?_
      refine w_iload_n dX9_hasChildOfAgeAsHeir_64 rfl ?_
      refine w_callVi dX9_hasChildOfAgeAsHeir_65 k_X9_115 (by first | assumption | rfl) rfl (hpa) rfl rfl rfl (Nat.le_of_ble_eq_true rfl) (by first | decide | omega) ?_
      refine w_aload_n dX9_hasChildOfAgeAsHeir_68 rfl ?_
      refine w_getR dX9_hasChildOfAgeAsHeir_69 f_X9_19 (by first | assumption | rfl) rfl rfl ?_
      refine w_getI dX9_hasChildOfAgeAsHeir_72 f_X9_94 (by first | assumption | rfl) rfl ?_
      rw [kput_t l3 k55, e5]
      refine w_icmp_ne (tgt := 94) dX9_hasChildOfAgeAsHeir_75 (by decide) (fun c_75 => ?_) (fun c_75 => ?_)
      · refine w_iconst (v := 0) dX9_hasChildOfAgeAsHeir_94 (by decide) ?_
        exact w_ret dX9_hasChildOfAgeAsHeir_95 ⟨0, Or.inl rfl, rfl, by rw [hpc, decide_eq_false c_75]; rfl, rfl, scr_k⟩
      · refine w_aload_n dX9_hasChildOfAgeAsHeir_78 rfl ?_
        refine w_getR dX9_hasChildOfAgeAsHeir_79 f_X9_19 (by first | assumption | rfl) rfl rfl ?_
        refine w_iload_n dX9_hasChildOfAgeAsHeir_82 rfl ?_
        refine w_callVi dX9_hasChildOfAgeAsHeir_83 k_X9_122 (by first | assumption | rfl) rfl (hag) rfl rfl rfl (Nat.le_of_ble_eq_true rfl) (by first | decide | omega) ?_
        refine w_iconst (v := 2) dX9_hasChildOfAgeAsHeir_86 (by decide) ?_
        refine w_icmp_lt (tgt := 94) dX9_hasChildOfAgeAsHeir_87 (by decide) (fun c_87 => ?_) (fun c_87 => ?_)
        · refine w_iconst (v := 0) dX9_hasChildOfAgeAsHeir_94 (by decide) ?_
          exact w_ret dX9_hasChildOfAgeAsHeir_95 ⟨0, Or.inl rfl, rfl, by rw [hpc, decide_eq_true c_87]; simp; rfl, rfl, scr_k⟩
        · refine w_iconst (v := 1) dX9_hasChildOfAgeAsHeir_90 (by decide) ?_
          refine w_goto (tgt := 95) dX9_hasChildOfAgeAsHeir_91 (by decide) ?_
          exact w_ret dX9_hasChildOfAgeAsHeir_95 ⟨1, Or.inr rfl, rfl, by rw [hpc, decide_eq_true c_75, decide_eq_false c_87]; rfl, rfl, scr_k⟩
