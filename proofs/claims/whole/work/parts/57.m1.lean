/-- a death on a page -/
def MD (t : Nat) (I I1 : Mem) : Prop := (∀ p, p ≠ t → p ≠ 97 → p ≠ 98 → p ≠ 89 → I1 p = I p) ∧ ∀ k, k ≠ 16 → I1 89 k = I 89 k
theorem ML.md {I I1 : Mem} {t : Nat} (h : ML I I1) : MD t I I1 := ⟨fun p _ b c d => h.1 p b c d, h.2⟩
theorem MD.rf {I : Mem} {t : Nat} : MD t I I := ⟨fun _ _ _ _ _ => rfl, fun _ _ => rfl⟩
theorem MD.tr {I I1 I2 : Mem} {t : Nat} (h : MD t I I1) (k : MD t I1 I2) : MD t I I2 := ⟨fun p a b c d => (k.1 p a b c d).trans (h.1 p a b c d), fun q hq => (k.2 q hq).trans (h.2 q hq)⟩
theorem MD.ut {I I1 : Mem} {t k : Nat} {v : Int32} (h : MD t I I1) (ht : t ≠ 89) : MD t I (upI I1 t k v) := ⟨fun p a b c d => by rw [upI_ne a]; exact h.1 p a b c d, fun q hq => by rw [upI_ne (fun e => ht e.symm)]; exact h.2 q hq⟩
theorem phr_0 {a : Nat → Int32} {v : Int32} {n j m : Nat} {tie : Int32} : phr (upd a 0 v) n tie j m = phr a n tie j m := by
  have h1 : (fun p => upd a 0 v (7 + p)) = fun p => a (7 + p) := funext (fun p => upd_n (by omega))
  have h2 : (fun p => upd a 0 v (15 + p)) = fun p => a (15 + p) := funext (fun p => upd_n (by omega))
  have h3 : pw (upd a 0 v) = pw a := rfl
  unfold phr phe
  rw [h1, h2, h3]
set_option maxHeartbeats 4000000 in
set_option maxRecDepth 100000 in
theorem c_X10_goDie {I : Mem} {J : Lng} {t N m : Nat} (ht : t ∈ q_pages) (hP : PW (I t) N m) {j : Nat} (hj : j < N) : q_F yX10_goDie cX10_goDie 3 none 4 [.ref 89, .ref t, .int (nI j)] I J (fun r I2 J1 => r = none ∧ J1 = J ∧ MD t I I2 ∧ I2 t = pdie (I t) N m j) := by
  have hp := SH_page ht
  obtain ⟨t1, t2, t3⟩ := pt_ne ht
  have h7 := hP.2.1
  have hm := p2_128 h7 hP.2.2.2.1
  have h0 : I t 0 = nI m := hP.2.2.1
  have ht2 : (upI I t 0 (nI (mclr m j))) t = upd (I t) 0 (nI (mclr m j)) := upI_self _ _ _ _
  have hhe := c_X10_heirOf (I := upI I t 0 (nI (mclr m j))) (J := J) (N := N) (m := mclr m j) ht (by rw [ht2]; exact hP.1) h7 (by intro k hk; show _ ∨ _; rw [show mpr (upI I t 0 (nI (mclr m j))) t k = I t (7 + k) by unfold mpr; rw [ht2, upd_n (by omega)]]; exact hP.2.2.2.2.1 k hk) (by rw [ht2]; rfl) (mclr_lt m hm j (by omega)) (tie := I t 2) hj
  rw [ht2, phr_0] at hhe
  refine q_Fv me_X10_goDie rfl (Nat.le_of_ble_eq_true rfl) ?_
  show q_w _ _ _ _ _ _ _ 0 [some (.ref 89), some (.ref t), some (.int (nI j))] [] I J
  refine w_aload_n dX10_goDie_0 rfl ?_
  refine w_iconst (v := 0) dX10_goDie_1 (by decide) ?_
  refine w_dup2 dX10_goDie_2 rfl rfl ?_
  refine w_iald (j := 0) dX10_goDie_3 (by first | assumption | rfl) rfl rfl (by decide) (by decide) ?_
  refine w_iconst (v := 1) dX10_goDie_4 (by decide) ?_
  refine w_iload_n dX10_goDie_5 rfl ?_
  refine w_ishl dX10_goDie_6 ?_
  refine w_iconst (v := (-1)) dX10_goDie_7 (by decide) ?_
  refine w_ixor dX10_goDie_8 ?_
  refine w_iand dX10_goDie_9 ?_
  rw [h0, mI_clr m hm j (by omega)]
  refine w_iast (j := 0) dX10_goDie_10 (by first | assumption | rfl) rfl rfl (by decide) (by decide) ?_
  refine w_aload_n dX10_goDie_11 rfl ?_
  refine w_iconst (v := 1) dX10_goDie_12 (by decide) ?_
  refine w_iald (j := 1) dX10_goDie_13 (by first | assumption | rfl) rfl rfl (by decide) (by decide) ?_
  rw [upI_tf (by decide)]
  refine w_iload_n dX10_goDie_14 rfl ?_
  refine w_icmp_ne (tgt := 34) dX10_goDie_15 (by decide) (fun c_15 => ?_) (fun c_15 => ?_)
  · refine w_ret dX10_goDie_34 ⟨rfl, rfl, rfl, MD.rf.ut t1, ?_⟩
    rw [ht2]
    unfold pdie
    rw [if_neg c_15]
  · refine w_aload_n dX10_goDie_18 rfl ?_
    refine w_iconst (v := 1) dX10_goDie_19 (by decide) ?_
    refine w_aload_n dX10_goDie_20 rfl ?_
    refine w_aload_n dX10_goDie_21 rfl ?_
    refine w_iload_n dX10_goDie_22 rfl ?_
    refine w_aload_n dX10_goDie_23 rfl ?_
    refine w_iconst (v := 2) dX10_goDie_24 (by decide) ?_
    refine w_iald (j := 2) dX10_goDie_25 (by first | assumption | rfl) rfl rfl (by decide) (by decide) ?_
    rw [upI_tf (by decide)]
    refine w_callVF dX10_goDie_26 k_X10_108 (by first | assumption | rfl) rfl (hhe) rfl rfl rfl (Nat.le_of_ble_eq_true rfl) (by first | decide | omega) (fun r_26 I_26 J_26 h_26 => ?_)
    obtain ⟨rfl, rfl, hM⟩ := h_26
    refine w_iast (j := 1) dX10_goDie_29 (by first | assumption | rfl) rfl rfl (by decide) (by decide) ?_
    refine w_aload_n dX10_goDie_30 rfl ?_
    refine w_iconst (v := 4) dX10_goDie_31 (by decide) ?_
    refine w_iconst (v := 0) dX10_goDie_32 (by decide) ?_
    refine w_iast (j := 4) dX10_goDie_33 (by first | assumption | rfl) rfl rfl (by decide) (by decide) ?_
    refine w_ret dX10_goDie_34 ⟨rfl, rfl, rfl, ((MD.rf.ut t1).tr hM.md).ut t1 |>.ut t1, ?_⟩
    rw [upI_self, upI_self, hM.pg ht, ht2]
    unfold pdie
    rw [if_pos c_15]
/-- k cells, from s of src to d of dst -/
def cpy (dst src : Nat → Int32) (d s k : Nat) : Nat → Int32 := fun i => if d ≤ i ∧ i < d + k then src (s + (i - d)) else dst i
theorem cpy_0 {dst src : Nat → Int32} {d s : Nat} : cpy dst src d s 0 = dst := by
  funext i; unfold cpy; rw [if_neg (by omega)]
theorem cpy_s {dst src : Nat → Int32} {d s k : Nat} : upd (cpy dst src d s k) (d + k) (src (s + k)) = cpy dst src d s (k + 1) := by
  funext i
  unfold upd cpy
  by_cases h : i = d + k
  · rw [if_pos h, if_pos (by omega), h, show d + k - d = k by omega]
  · rw [if_neg h]
    by_cases h2 : d ≤ i ∧ i < d + k
    · rw [if_pos h2, if_pos (by omega)]
    · rw [if_neg h2, if_neg (by omega)]
theorem cpy_hi {dst src : Nat → Int32} {d s k i : Nat} (h : d + k ≤ i) : cpy dst src d s k i = dst i := by unfold cpy; rw [if_neg (by omega)]
theorem cpy_in {dst src : Nat → Int32} {d s k i : Nat} (h : i < k) : cpy dst src d s k (d + i) = src (s + i) := by unfold cpy; rw [if_pos (by omega), show d + i - d = i by omega]
theorem cpy_lo {dst src : Nat → Int32} {d s k i : Nat} (h : i < d) : cpy dst src d s k i = dst i := by unfold cpy; rw [if_neg (by omega)]
set_option maxHeartbeats 4000000 in
set_option maxRecDepth 100000 in
theorem l_X10_begin {I : Mem} {J : Lng} : ∀ (r k : Nat), 22 - k = r → k ≤ 22 → q_w yX10_begin.cls yX10_begin.name cX10_begin 2 .return_ 0 (fun st I2 J1 => st = [] ∧ I2 = upR I 93 (cpy (I 93) (I 92) 0 0 22) ∧ J1 = J) 2 [some (.ref 89), some (.int (nI k))] [] (upR I 93 (cpy (I 93) (I 92) 0 0 k)) (J) := by
  intro r
  induction r with
  | zero =>
    intro k hr hk
    obtain rfl : k = 22 := by omega
    refine w_iload_n dX10_begin_2 rfl ?_
    refine w_bipush (v := 22) dX10_begin_3 (by decide) ?_
    refine w_icmp_ge (tgt := 26) dX10_begin_5 (by decide) (fun c_5 => ?_) (fun c_5 => absurd (show (22 : Int32) ≤ nI 22 by decide) c_5)
    exact w_ret dX10_begin_26 ⟨rfl, rfl, rfl⟩
  | succ r ih =>
    intro k hr hk
    refine w_iload_n dX10_begin_2 rfl ?_
    refine w_bipush (v := 22) dX10_begin_3 (by decide) ?_
    refine w_icmp_ge (tgt := 26) dX10_begin_5 (by decide) (fun c_5 => absurd c_5 (nI_ge (b := 22) (by omega) (by decide))) (fun c_5 => ?_)
    refine w_aload_n dX10_begin_8 rfl ?_
    refine w_getR dX10_begin_9 f_X10_19 (by first | assumption | rfl) rfl rfl ?_
    refine w_iload_n dX10_begin_12 rfl ?_
    refine w_aload_n dX10_begin_13 rfl ?_
    refine w_getR dX10_begin_14 f_X10_16 (by first | assumption | rfl) rfl rfl ?_
    refine w_iload_n dX10_begin_17 rfl ?_
    refine w_iald (j := k) dX10_begin_18 (by first | assumption | rfl) rfl rfl (show k < 22 by omega) (by decide) ?_
    refine w_iast (j := k) dX10_begin_19 (by first | assumption | rfl) rfl rfl (show k < 22 by omega) (by decide) ?_
    refine w_iincv (c := 1) dX10_begin_20 (by decide) rfl (by decide) rfl ?_
    refine w_goto (tgt := 2) dX10_begin_23 (by decide) ?_
    refine w_show (L2 := _) (st2 := _) (I2 := upR I 93 (cpy (I 93) (I 92) 0 0 (k + 1))) (J2 := J) ?_ rfl rfl ?_ rfl
    · rw [nI_1]
      exact ih (k + 1) (by omega) (by omega)
    · rw [upI_upR, upR_ne (by decide), ← cpy_s, Nat.zero_add]
set_option maxHeartbeats 4000000 in
set_option maxRecDepth 100000 in
theorem c_X10_begin {I : Mem} {J : Lng} : q_E yX10_begin cX10_begin 2 none 0 [.ref 89] I J none (upR I 93 (cpy (I 93) (I 92) 0 0 22)) (J) := by
  refine q_Ev me_X10_begin rfl (Nat.le_of_ble_eq_true rfl) ?_
  show q_w _ _ _ _ _ _ _ 0 [some (.ref 89), none] [] I J
  refine w_iconst (v := 0) dX10_begin_0 (by decide) ?_
  refine w_istore_n dX10_begin_1 (by decide) rfl ?_
  refine w_show (L2 := _) (st2 := _) (I2 := upR I 93 (cpy (I 93) (I 92) 0 0 0)) (J2 := J) ?_ rfl rfl (by rw [cpy_0, upR_id]) rfl
  exact l_X10_begin 22 0 rfl (by decide)
